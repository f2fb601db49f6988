theorem dX12_types_0 : decode cX12_types 0 = .ok (.iconst 3, 1) := by decide +kernel
theorem dX12_types_1 : decode cX12_types 1 = .ok (.istore_n 2, 1) := by decide +kernel
theorem dX12_types_2 : decode cX12_types 2 = .ok (.iload_n 2, 1) := by decide +kernel
theorem dX12_types_3 : decode cX12_types 3 = .ok (.ifCond .lt 35, 3) := by decide +kernel
theorem dX12_types_6 : decode cX12_types 6 = .ok (.aload_n 0, 1) := by decide +kernel
theorem dX12_types_7 : decode cX12_types 7 = .ok (.getfield 7, 3) := by decide +kernel
theorem dX12_types_10 : decode cX12_types 10 = .ok (.aload_n 0, 1) := by decide +kernel
theorem dX12_types_11 : decode cX12_types 11 = .ok (.getfield 103, 3) := by decide +kernel
theorem dX12_types_14 : decode cX12_types 14 = .ok (.iload_n 1, 1) := by decide +kernel
theorem dX12_types_15 : decode cX12_types 15 = .ok (.bipush 8, 2) := by decide +kernel
theorem dX12_types_17 : decode cX12_types 17 = .ok (.iload_n 2, 1) := by decide +kernel
theorem dX12_types_18 : decode cX12_types 18 = .ok (.imul, 1) := by decide +kernel
theorem dX12_types_19 : decode cX12_types 19 = .ok (.ishr, 1) := by decide +kernel
theorem dX12_types_20 : decode cX12_types 20 = .ok (.i2b, 1) := by decide +kernel
theorem dX12_types_21 : decode cX12_types 21 = .ok (.bastore, 1) := by decide +kernel
theorem dX12_types_22 : decode cX12_types 22 = .ok (.aload_n 0, 1) := by decide +kernel
theorem dX12_types_23 : decode cX12_types 23 = .ok (.aload_n 0, 1) := by decide +kernel
theorem dX12_types_24 : decode cX12_types 24 = .ok (.getfield 103, 3) := by decide +kernel
theorem dX12_types_27 : decode cX12_types 27 = .ok (.iconst 1, 1) := by decide +kernel
theorem dX12_types_28 : decode cX12_types 28 = .ok (.iadd, 1) := by decide +kernel
theorem dX12_types_29 : decode cX12_types 29 = .ok (.putfield 103, 3) := by decide +kernel
theorem dX12_types_32 : decode cX12_types 32 = .ok (.iinc 2 (-1), 3) := by decide +kernel
theorem dX12_types_35 : decode cX12_types 35 = .ok (.goto (-33), 3) := by decide +kernel
theorem dX12_types_38 : decode cX12_types 38 = .ok (.return_, 1) := by decide +kernel
theorem dX12_feed_0 : decode cX12_feed 0 = .ok (.aload_n 0, 1) := by decide +kernel
theorem dX12_feed_1 : decode cX12_feed 1 = .ok (.getfield 103, 3) := by decide +kernel
theorem dX12_feed_4 : decode cX12_feed 4 = .ok (.bipush 20, 2) := by decide +kernel
theorem dX12_feed_6 : decode cX12_feed 6 = .ok (.iadd, 1) := by decide +kernel
theorem dX12_feed_7 : decode cX12_feed 7 = .ok (.bipush 40, 2) := by decide +kernel
theorem dX12_feed_9 : decode cX12_feed 9 = .ok (.if_icmp .le 5, 3) := by decide +kernel
theorem dX12_feed_12 : decode cX12_feed 12 = .ok (.iconst (-1), 1) := by decide +kernel
theorem dX12_feed_13 : decode cX12_feed 13 = .ok (.ireturn, 1) := by decide +kernel
theorem dX12_feed_14 : decode cX12_feed 14 = .ok (.aload_n 0, 1) := by decide +kernel
theorem dX12_feed_15 : decode cX12_feed 15 = .ok (.iload_n 1, 1) := by decide +kernel
theorem dX12_feed_16 : decode cX12_feed 16 = .ok (.invokevirtual 107, 3) := by decide +kernel
theorem dX12_feed_19 : decode cX12_feed 19 = .ok (.aload_n 0, 1) := by decide +kernel
theorem dX12_feed_20 : decode cX12_feed 20 = .ok (.iload_n 2, 1) := by decide +kernel
theorem dX12_feed_21 : decode cX12_feed 21 = .ok (.invokevirtual 107, 3) := by decide +kernel
theorem dX12_feed_24 : decode cX12_feed 24 = .ok (.aload_n 0, 1) := by decide +kernel
theorem dX12_feed_25 : decode cX12_feed 25 = .ok (.iload_n 3, 1) := by decide +kernel
theorem dX12_feed_26 : decode cX12_feed 26 = .ok (.invokevirtual 107, 3) := by decide +kernel
theorem dX12_feed_29 : decode cX12_feed 29 = .ok (.aload_n 0, 1) := by decide +kernel
theorem dX12_feed_30 : decode cX12_feed 30 = .ok (.iload 4, 2) := by decide +kernel
theorem dX12_feed_32 : decode cX12_feed 32 = .ok (.invokevirtual 107, 3) := by decide +kernel
theorem dX12_feed_35 : decode cX12_feed 35 = .ok (.aload_n 0, 1) := by decide +kernel
theorem dX12_feed_36 : decode cX12_feed 36 = .ok (.iload 5, 2) := by decide +kernel
theorem dX12_feed_38 : decode cX12_feed 38 = .ok (.invokevirtual 107, 3) := by decide +kernel
theorem dX12_feed_41 : decode cX12_feed 41 = .ok (.aload_n 0, 1) := by decide +kernel
theorem dX12_feed_42 : decode cX12_feed 42 = .ok (.getfield 103, 3) := by decide +kernel
theorem dX12_feed_45 : decode cX12_feed 45 = .ok (.ireturn, 1) := by decide +kernel
theorem dX12_takes_0 : decode cX12_takes 0 = .ok (.iconst 0, 1) := by decide +kernel
theorem dX12_takes_1 : decode cX12_takes 1 = .ok (.istore_n 2, 1) := by decide +kernel
theorem dX12_takes_2 : decode cX12_takes 2 = .ok (.iload_n 2, 1) := by decide +kernel
theorem dX12_takes_3 : decode cX12_takes 3 = .ok (.iload_n 1, 1) := by decide +kernel
theorem dX12_takes_4 : decode cX12_takes 4 = .ok (.if_icmp .ge 21, 3) := by decide +kernel
theorem dX12_takes_7 : decode cX12_takes 7 = .ok (.aload_n 0, 1) := by decide +kernel
theorem dX12_takes_8 : decode cX12_takes 8 = .ok (.getfield 13, 3) := by decide +kernel
theorem dX12_takes_11 : decode cX12_takes 11 = .ok (.iload_n 2, 1) := by decide +kernel
theorem dX12_takes_12 : decode cX12_takes 12 = .ok (.aload_n 0, 1) := by decide +kernel
theorem dX12_takes_13 : decode cX12_takes 13 = .ok (.getfield 7, 3) := by decide +kernel
theorem dX12_takes_16 : decode cX12_takes 16 = .ok (.iload_n 2, 1) := by decide +kernel
theorem dX12_takes_17 : decode cX12_takes 17 = .ok (.baload, 1) := by decide +kernel
theorem dX12_takes_18 : decode cX12_takes 18 = .ok (.bastore, 1) := by decide +kernel
theorem dX12_takes_19 : decode cX12_takes 19 = .ok (.iinc 2 1, 3) := by decide +kernel
theorem dX12_takes_22 : decode cX12_takes 22 = .ok (.goto (-20), 3) := by decide +kernel
theorem dX12_takes_25 : decode cX12_takes 25 = .ok (.aload_n 0, 1) := by decide +kernel
theorem dX12_takes_26 : decode cX12_takes 26 = .ok (.iconst 0, 1) := by decide +kernel
theorem dX12_takes_27 : decode cX12_takes 27 = .ok (.putfield 103, 3) := by decide +kernel
theorem dX12_takes_30 : decode cX12_takes 30 = .ok (.return_, 1) := by decide +kernel
theorem dX12_word_0 : decode cX12_word 0 = .ok (.lconst 0, 1) := by decide +kernel
theorem dX12_word_1 : decode cX12_word 1 = .ok (.lstore_n 3, 1) := by decide +kernel
theorem dX12_word_2 : decode cX12_word 2 = .ok (.iload_n 1, 1) := by decide +kernel
theorem dX12_word_3 : decode cX12_word 3 = .ok (.istore 5, 2) := by decide +kernel
theorem dX12_word_5 : decode cX12_word 5 = .ok (.iload 5, 2) := by decide +kernel
theorem dX12_word_7 : decode cX12_word 7 = .ok (.iload_n 1, 1) := by decide +kernel
theorem dX12_word_8 : decode cX12_word 8 = .ok (.iload_n 2, 1) := by decide +kernel
theorem dX12_word_9 : decode cX12_word 9 = .ok (.iadd, 1) := by decide +kernel
theorem dX12_word_10 : decode cX12_word 10 = .ok (.if_icmp .ge 49, 3) := by decide +kernel
theorem dX12_word_13 : decode cX12_word 13 = .ok (.aload_n 0, 1) := by decide +kernel
theorem dX12_word_14 : decode cX12_word 14 = .ok (.getfield 13, 3) := by decide +kernel
theorem dX12_word_17 : decode cX12_word 17 = .ok (.iload 5, 2) := by decide +kernel
theorem dX12_word_19 : decode cX12_word 19 = .ok (.baload, 1) := by decide +kernel
theorem dX12_word_20 : decode cX12_word 20 = .ok (.bipush 97, 2) := by decide +kernel
theorem dX12_word_22 : decode cX12_word 22 = .ok (.if_icmp .lt 15, 3) := by decide +kernel
theorem dX12_word_25 : decode cX12_word 25 = .ok (.aload_n 0, 1) := by decide +kernel
theorem dX12_word_26 : decode cX12_word 26 = .ok (.getfield 13, 3) := by decide +kernel
theorem dX12_word_29 : decode cX12_word 29 = .ok (.iload 5, 2) := by decide +kernel
theorem dX12_word_31 : decode cX12_word 31 = .ok (.baload, 1) := by decide +kernel
theorem dX12_word_32 : decode cX12_word 32 = .ok (.bipush 122, 2) := by decide +kernel
theorem dX12_word_34 : decode cX12_word 34 = .ok (.if_icmp .le 5, 3) := by decide +kernel
theorem dX12_word_37 : decode cX12_word 37 = .ok (.lconst 0, 1) := by decide +kernel
theorem dX12_word_38 : decode cX12_word 38 = .ok (.lreturn, 1) := by decide +kernel
theorem dX12_word_39 : decode cX12_word 39 = .ok (.lload_n 3, 1) := by decide +kernel
theorem dX12_word_40 : decode cX12_word 40 = .ok (.bipush 8, 2) := by decide +kernel
theorem dX12_word_42 : decode cX12_word 42 = .ok (.lshl, 1) := by decide +kernel
theorem dX12_word_43 : decode cX12_word 43 = .ok (.aload_n 0, 1) := by decide +kernel
theorem dX12_word_44 : decode cX12_word 44 = .ok (.getfield 13, 3) := by decide +kernel
theorem dX12_word_47 : decode cX12_word 47 = .ok (.iload 5, 2) := by decide +kernel
theorem dX12_word_49 : decode cX12_word 49 = .ok (.baload, 1) := by decide +kernel
theorem dX12_word_50 : decode cX12_word 50 = .ok (.i2l, 1) := by decide +kernel
theorem dX12_word_51 : decode cX12_word 51 = .ok (.lor, 1) := by decide +kernel
theorem dX12_word_52 : decode cX12_word 52 = .ok (.lstore_n 3, 1) := by decide +kernel
theorem dX12_word_53 : decode cX12_word 53 = .ok (.iinc 5 1, 3) := by decide +kernel
theorem dX12_word_56 : decode cX12_word 56 = .ok (.goto (-51), 3) := by decide +kernel
theorem dX12_word_59 : decode cX12_word 59 = .ok (.lload_n 3, 1) := by decide +kernel
theorem dX12_word_60 : decode cX12_word 60 = .ok (.lreturn, 1) := by decide +kernel
theorem dX12_size_0 : decode cX12_size 0 = .ok (.iconst 0, 1) := by decide +kernel
theorem dX12_size_1 : decode cX12_size 1 = .ok (.istore_n 2, 1) := by decide +kernel
theorem dX12_size_2 : decode cX12_size 2 = .ok (.iload_n 2, 1) := by decide +kernel
theorem dX12_size_3 : decode cX12_size 3 = .ok (.bipush 8, 2) := by decide +kernel
theorem dX12_size_5 : decode cX12_size 5 = .ok (.if_icmp .ge 21, 3) := by decide +kernel
theorem dX12_size_8 : decode cX12_size 8 = .ok (.lload_n 0, 1) := by decide +kernel
theorem dX12_size_9 : decode cX12_size 9 = .ok (.bipush 8, 2) := by decide +kernel
theorem dX12_size_11 : decode cX12_size 11 = .ok (.iload_n 2, 1) := by decide +kernel
theorem dX12_size_12 : decode cX12_size 12 = .ok (.imul, 1) := by decide +kernel
theorem dX12_size_13 : decode cX12_size 13 = .ok (.lushr, 1) := by decide +kernel
theorem dX12_size_14 : decode cX12_size 14 = .ok (.lconst 0, 1) := by decide +kernel
theorem dX12_size_15 : decode cX12_size 15 = .ok (.lcmp, 1) := by decide +kernel
theorem dX12_size_16 : decode cX12_size 16 = .ok (.ifCond .eq 10, 3) := by decide +kernel
theorem dX12_size_19 : decode cX12_size 19 = .ok (.iload_n 2, 1) := by decide +kernel
theorem dX12_size_20 : decode cX12_size 20 = .ok (.iconst 1, 1) := by decide +kernel
theorem dX12_size_21 : decode cX12_size 21 = .ok (.iadd, 1) := by decide +kernel
theorem dX12_size_22 : decode cX12_size 22 = .ok (.istore_n 2, 1) := by decide +kernel
theorem dX12_size_23 : decode cX12_size 23 = .ok (.goto (-21), 3) := by decide +kernel
theorem dX12_size_26 : decode cX12_size 26 = .ok (.iload_n 2, 1) := by decide +kernel
theorem dX12_size_27 : decode cX12_size 27 = .ok (.ireturn, 1) := by decide +kernel
theorem dX12_areYears_0 : decode cX12_areYears 0 = .ok (.iload_n 0, 1) := by decide +kernel
theorem dX12_areYears_1 : decode cX12_areYears 1 = .ok (.iconst 1, 1) := by decide +kernel
theorem dX12_areYears_2 : decode cX12_areYears 2 = .ok (.if_icmp .lt 19, 3) := by decide +kernel
theorem dX12_areYears_5 : decode cX12_areYears 5 = .ok (.iload_n 1, 1) := by decide +kernel
theorem dX12_areYears_6 : decode cX12_areYears 6 = .ok (.sipush 2000, 3) := by decide +kernel
theorem dX12_areYears_9 : decode cX12_areYears 9 = .ok (.if_icmp .gt 12, 3) := by decide +kernel
theorem dX12_areYears_12 : decode cX12_areYears 12 = .ok (.iload_n 0, 1) := by decide +kernel
theorem dX12_areYears_13 : decode cX12_areYears 13 = .ok (.iload_n 1, 1) := by decide +kernel
theorem dX12_areYears_14 : decode cX12_areYears 14 = .ok (.if_icmp .gt 7, 3) := by decide +kernel
theorem dX12_areYears_17 : decode cX12_areYears 17 = .ok (.iconst 1, 1) := by decide +kernel
theorem dX12_areYears_18 : decode cX12_areYears 18 = .ok (.goto 4, 3) := by decide +kernel
theorem dX12_areYears_21 : decode cX12_areYears 21 = .ok (.iconst 0, 1) := by decide +kernel
theorem dX12_areYears_22 : decode cX12_areYears 22 = .ok (.ireturn, 1) := by decide +kernel
theorem dX12_isBook_0 : decode cX12_isBook 0 = .ok (.iload_n 1, 1) := by decide +kernel
theorem dX12_isBook_1 : decode cX12_isBook 1 = .ok (.ifCond .lt 15, 3) := by decide +kernel
theorem dX12_isBook_4 : decode cX12_isBook 4 = .ok (.iload_n 1, 1) := by decide +kernel
theorem dX12_isBook_5 : decode cX12_isBook 5 = .ok (.aload_n 0, 1) := by decide +kernel
theorem dX12_isBook_6 : decode cX12_isBook 6 = .ok (.getfield 111, 3) := by decide +kernel
theorem dX12_isBook_9 : decode cX12_isBook 9 = .ok (.if_icmp .ge 7, 3) := by decide +kernel
theorem dX12_isBook_12 : decode cX12_isBook 12 = .ok (.iconst 1, 1) := by decide +kernel
theorem dX12_isBook_13 : decode cX12_isBook 13 = .ok (.goto 4, 3) := by decide +kernel
theorem dX12_isBook_16 : decode cX12_isBook 16 = .ok (.iconst 0, 1) := by decide +kernel
theorem dX12_isBook_17 : decode cX12_isBook 17 = .ok (.ireturn, 1) := by decide +kernel
theorem dX12_book_0 : decode cX12_book 0 = .ok (.iload_n 1, 1) := by decide +kernel
theorem dX12_book_1 : decode cX12_book 1 = .ok (.iload_n 2, 1) := by decide +kernel
theorem dX12_book_2 : decode cX12_book 2 = .ok (.invokestatic 114, 3) := by decide +kernel
theorem dX12_book_5 : decode cX12_book 5 = .ok (.ifCond .eq 12, 3) := by decide +kernel
theorem dX12_book_8 : decode cX12_book 8 = .ok (.aload_n 0, 1) := by decide +kernel
theorem dX12_book_9 : decode cX12_book 9 = .ok (.getfield 111, 3) := by decide +kernel
theorem dX12_book_12 : decode cX12_book 12 = .ok (.bipush 30, 2) := by decide +kernel
theorem dX12_book_14 : decode cX12_book 14 = .ok (.if_icmp .ne 5, 3) := by decide +kernel
theorem dX12_book_17 : decode cX12_book 17 = .ok (.iconst (-1), 1) := by decide +kernel
theorem dX12_book_18 : decode cX12_book 18 = .ok (.ireturn, 1) := by decide +kernel
theorem dX12_book_19 : decode cX12_book 19 = .ok (.aload_n 0, 1) := by decide +kernel
theorem dX12_book_20 : decode cX12_book 20 = .ok (.getfield 16, 3) := by decide +kernel
theorem dX12_book_23 : decode cX12_book 23 = .ok (.aload_n 0, 1) := by decide +kernel
theorem dX12_book_24 : decode cX12_book 24 = .ok (.getfield 111, 3) := by decide +kernel
theorem dX12_book_27 : decode cX12_book 27 = .ok (.iload_n 1, 1) := by decide +kernel
theorem dX12_book_28 : decode cX12_book 28 = .ok (.iastore, 1) := by decide +kernel
theorem dX12_book_29 : decode cX12_book 29 = .ok (.aload_n 0, 1) := by decide +kernel
theorem dX12_book_30 : decode cX12_book 30 = .ok (.getfield 20, 3) := by decide +kernel
theorem dX12_book_33 : decode cX12_book 33 = .ok (.aload_n 0, 1) := by decide +kernel
theorem dX12_book_34 : decode cX12_book 34 = .ok (.getfield 111, 3) := by decide +kernel
theorem dX12_book_37 : decode cX12_book 37 = .ok (.iload_n 2, 1) := by decide +kernel
theorem dX12_book_38 : decode cX12_book 38 = .ok (.iastore, 1) := by decide +kernel
theorem dX12_book_39 : decode cX12_book 39 = .ok (.aload_n 0, 1) := by decide +kernel
theorem dX12_book_40 : decode cX12_book 40 = .ok (.aload_n 0, 1) := by decide +kernel
theorem dX12_book_41 : decode cX12_book 41 = .ok (.getfield 111, 3) := by decide +kernel
theorem dX12_book_44 : decode cX12_book 44 = .ok (.iconst 1, 1) := by decide +kernel
theorem dX12_book_45 : decode cX12_book 45 = .ok (.iadd, 1) := by decide +kernel
theorem dX12_book_46 : decode cX12_book 46 = .ok (.putfield 111, 3) := by decide +kernel
theorem dX12_book_49 : decode cX12_book 49 = .ok (.aload_n 0, 1) := by decide +kernel
theorem dX12_book_50 : decode cX12_book 50 = .ok (.invokevirtual 118, 3) := by decide +kernel
theorem dX12_book_53 : decode cX12_book 53 = .ok (.pop, 1) := by decide +kernel
theorem dX12_book_54 : decode cX12_book 54 = .ok (.aload_n 0, 1) := by decide +kernel
theorem dX12_book_55 : decode cX12_book 55 = .ok (.getfield 111, 3) := by decide +kernel
theorem dX12_book_58 : decode cX12_book 58 = .ok (.iconst 1, 1) := by decide +kernel
theorem dX12_book_59 : decode cX12_book 59 = .ok (.isub, 1) := by decide +kernel
theorem dX12_book_60 : decode cX12_book 60 = .ok (.ireturn, 1) := by decide +kernel
theorem dX12_tightens_0 : decode cX12_tightens 0 = .ok (.iconst 0, 1) := by decide +kernel
theorem dX12_tightens_1 : decode cX12_tightens 1 = .ok (.istore_n 1, 1) := by decide +kernel
theorem dX12_tightens_2 : decode cX12_tightens 2 = .ok (.iload_n 1, 1) := by decide +kernel
theorem dX12_tightens_3 : decode cX12_tightens 3 = .ok (.aload_n 0, 1) := by decide +kernel
theorem dX12_tightens_4 : decode cX12_tightens 4 = .ok (.getfield 111, 3) := by decide +kernel
theorem dX12_tightens_7 : decode cX12_tightens 7 = .ok (.if_icmp .ge 33, 3) := by decide +kernel
theorem dX12_tightens_10 : decode cX12_tightens 10 = .ok (.aload_n 0, 1) := by decide +kernel
theorem dX12_tightens_11 : decode cX12_tightens 11 = .ok (.getfield 23, 3) := by decide +kernel
theorem dX12_tightens_14 : decode cX12_tightens 14 = .ok (.iload_n 1, 1) := by decide +kernel
theorem dX12_tightens_15 : decode cX12_tightens 15 = .ok (.aload_n 0, 1) := by decide +kernel
theorem dX12_tightens_16 : decode cX12_tightens 16 = .ok (.getfield 16, 3) := by decide +kernel
theorem dX12_tightens_19 : decode cX12_tightens 19 = .ok (.iload_n 1, 1) := by decide +kernel
theorem dX12_tightens_20 : decode cX12_tightens 20 = .ok (.iaload, 1) := by decide +kernel
theorem dX12_tightens_21 : decode cX12_tightens 21 = .ok (.iastore, 1) := by decide +kernel
theorem dX12_tightens_22 : decode cX12_tightens 22 = .ok (.aload_n 0, 1) := by decide +kernel
theorem dX12_tightens_23 : decode cX12_tightens 23 = .ok (.getfield 26, 3) := by decide +kernel
theorem dX12_tightens_26 : decode cX12_tightens 26 = .ok (.iload_n 1, 1) := by decide +kernel
theorem dX12_tightens_27 : decode cX12_tightens 27 = .ok (.aload_n 0, 1) := by decide +kernel
theorem dX12_tightens_28 : decode cX12_tightens 28 = .ok (.getfield 20, 3) := by decide +kernel
theorem dX12_tightens_31 : decode cX12_tightens 31 = .ok (.iload_n 1, 1) := by decide +kernel
theorem dX12_tightens_32 : decode cX12_tightens 32 = .ok (.iaload, 1) := by decide +kernel
theorem dX12_tightens_33 : decode cX12_tightens 33 = .ok (.iastore, 1) := by decide +kernel
theorem dX12_tightens_34 : decode cX12_tightens 34 = .ok (.iinc 1 1, 3) := by decide +kernel
theorem dX12_tightens_37 : decode cX12_tightens 37 = .ok (.goto (-35), 3) := by decide +kernel
theorem dX12_tightens_40 : decode cX12_tightens 40 = .ok (.iconst 1, 1) := by decide +kernel
theorem dX12_tightens_41 : decode cX12_tightens 41 = .ok (.istore_n 1, 1) := by decide +kernel
theorem dX12_tightens_42 : decode cX12_tightens 42 = .ok (.iload_n 1, 1) := by decide +kernel
theorem dX12_tightens_43 : decode cX12_tightens 43 = .ok (.ifCond .eq 139, 3) := by decide +kernel
theorem dX12_tightens_46 : decode cX12_tightens 46 = .ok (.iconst 0, 1) := by decide +kernel
theorem dX12_tightens_47 : decode cX12_tightens 47 = .ok (.istore_n 1, 1) := by decide +kernel
theorem dX12_tightens_48 : decode cX12_tightens 48 = .ok (.iconst 0, 1) := by decide +kernel
theorem dX12_tightens_49 : decode cX12_tightens 49 = .ok (.istore_n 2, 1) := by decide +kernel
theorem dX12_tightens_50 : decode cX12_tightens 50 = .ok (.iload_n 2, 1) := by decide +kernel
theorem dX12_tightens_51 : decode cX12_tightens 51 = .ok (.aload_n 0, 1) := by decide +kernel
theorem dX12_tightens_52 : decode cX12_tightens 52 = .ok (.getfield 122, 3) := by decide +kernel
theorem dX12_tightens_55 : decode cX12_tightens 55 = .ok (.if_icmp .ge 124, 3) := by decide +kernel
theorem dX12_tightens_58 : decode cX12_tightens 58 = .ok (.aload_n 0, 1) := by decide +kernel
theorem dX12_tightens_59 : decode cX12_tightens 59 = .ok (.getfield 29, 3) := by decide +kernel
theorem dX12_tightens_62 : decode cX12_tightens 62 = .ok (.iload_n 2, 1) := by decide +kernel
theorem dX12_tightens_63 : decode cX12_tightens 63 = .ok (.iaload, 1) := by decide +kernel
theorem dX12_tightens_64 : decode cX12_tightens 64 = .ok (.istore_n 3, 1) := by decide +kernel
theorem dX12_tightens_65 : decode cX12_tightens 65 = .ok (.aload_n 0, 1) := by decide +kernel
theorem dX12_tightens_66 : decode cX12_tightens 66 = .ok (.getfield 32, 3) := by decide +kernel
theorem dX12_tightens_69 : decode cX12_tightens 69 = .ok (.iload_n 2, 1) := by decide +kernel
theorem dX12_tightens_70 : decode cX12_tightens 70 = .ok (.iaload, 1) := by decide +kernel
theorem dX12_tightens_71 : decode cX12_tightens 71 = .ok (.istore 4, 2) := by decide +kernel
theorem dX12_tightens_73 : decode cX12_tightens 73 = .ok (.aload_n 0, 1) := by decide +kernel
theorem dX12_tightens_74 : decode cX12_tightens 74 = .ok (.getfield 23, 3) := by decide +kernel
theorem dX12_tightens_77 : decode cX12_tightens 77 = .ok (.iload 4, 2) := by decide +kernel
theorem dX12_tightens_79 : decode cX12_tightens 79 = .ok (.iaload, 1) := by decide +kernel
theorem dX12_tightens_80 : decode cX12_tightens 80 = .ok (.aload_n 0, 1) := by decide +kernel
theorem dX12_tightens_81 : decode cX12_tightens 81 = .ok (.getfield 23, 3) := by decide +kernel
theorem dX12_tightens_84 : decode cX12_tightens 84 = .ok (.iload_n 3, 1) := by decide +kernel
theorem dX12_tightens_85 : decode cX12_tightens 85 = .ok (.iaload, 1) := by decide +kernel
theorem dX12_tightens_86 : decode cX12_tightens 86 = .ok (.if_icmp .gt 20, 3) := by decide +kernel
theorem dX12_tightens_89 : decode cX12_tightens 89 = .ok (.aload_n 0, 1) := by decide +kernel
theorem dX12_tightens_90 : decode cX12_tightens 90 = .ok (.getfield 23, 3) := by decide +kernel
theorem dX12_tightens_93 : decode cX12_tightens 93 = .ok (.iload 4, 2) := by decide +kernel
theorem dX12_tightens_95 : decode cX12_tightens 95 = .ok (.aload_n 0, 1) := by decide +kernel
theorem dX12_tightens_96 : decode cX12_tightens 96 = .ok (.getfield 23, 3) := by decide +kernel
theorem dX12_tightens_99 : decode cX12_tightens 99 = .ok (.iload_n 3, 1) := by decide +kernel
theorem dX12_tightens_100 : decode cX12_tightens 100 = .ok (.iaload, 1) := by decide +kernel
theorem dX12_tightens_101 : decode cX12_tightens 101 = .ok (.iconst 1, 1) := by decide +kernel
theorem dX12_tightens_102 : decode cX12_tightens 102 = .ok (.iadd, 1) := by decide +kernel
theorem dX12_tightens_103 : decode cX12_tightens 103 = .ok (.iastore, 1) := by decide +kernel
theorem dX12_tightens_104 : decode cX12_tightens 104 = .ok (.iconst 1, 1) := by decide +kernel
theorem dX12_tightens_105 : decode cX12_tightens 105 = .ok (.istore_n 1, 1) := by decide +kernel
theorem dX12_tightens_106 : decode cX12_tightens 106 = .ok (.aload_n 0, 1) := by decide +kernel
theorem dX12_tightens_107 : decode cX12_tightens 107 = .ok (.getfield 26, 3) := by decide +kernel
theorem dX12_tightens_110 : decode cX12_tightens 110 = .ok (.iload_n 3, 1) := by decide +kernel
theorem dX12_tightens_111 : decode cX12_tightens 111 = .ok (.iaload, 1) := by decide +kernel
theorem dX12_tightens_112 : decode cX12_tightens 112 = .ok (.aload_n 0, 1) := by decide +kernel
theorem dX12_tightens_113 : decode cX12_tightens 113 = .ok (.getfield 26, 3) := by decide +kernel
theorem dX12_tightens_116 : decode cX12_tightens 116 = .ok (.iload 4, 2) := by decide +kernel
theorem dX12_tightens_118 : decode cX12_tightens 118 = .ok (.iaload, 1) := by decide +kernel
theorem dX12_tightens_119 : decode cX12_tightens 119 = .ok (.if_icmp .lt 20, 3) := by decide +kernel
theorem dX12_tightens_122 : decode cX12_tightens 122 = .ok (.aload_n 0, 1) := by decide +kernel
theorem dX12_tightens_123 : decode cX12_tightens 123 = .ok (.getfield 26, 3) := by decide +kernel
theorem dX12_tightens_126 : decode cX12_tightens 126 = .ok (.iload_n 3, 1) := by decide +kernel
theorem dX12_tightens_127 : decode cX12_tightens 127 = .ok (.aload_n 0, 1) := by decide +kernel
theorem dX12_tightens_128 : decode cX12_tightens 128 = .ok (.getfield 26, 3) := by decide +kernel
theorem dX12_tightens_131 : decode cX12_tightens 131 = .ok (.iload 4, 2) := by decide +kernel
theorem dX12_tightens_133 : decode cX12_tightens 133 = .ok (.iaload, 1) := by decide +kernel
theorem dX12_tightens_134 : decode cX12_tightens 134 = .ok (.iconst 1, 1) := by decide +kernel
theorem dX12_tightens_135 : decode cX12_tightens 135 = .ok (.isub, 1) := by decide +kernel
theorem dX12_tightens_136 : decode cX12_tightens 136 = .ok (.iastore, 1) := by decide +kernel
theorem dX12_tightens_137 : decode cX12_tightens 137 = .ok (.iconst 1, 1) := by decide +kernel
theorem dX12_tightens_138 : decode cX12_tightens 138 = .ok (.istore_n 1, 1) := by decide +kernel
theorem dX12_tightens_139 : decode cX12_tightens 139 = .ok (.aload_n 0, 1) := by decide +kernel
theorem dX12_tightens_140 : decode cX12_tightens 140 = .ok (.getfield 23, 3) := by decide +kernel
theorem dX12_tightens_143 : decode cX12_tightens 143 = .ok (.iload_n 3, 1) := by decide +kernel
theorem dX12_tightens_144 : decode cX12_tightens 144 = .ok (.iaload, 1) := by decide +kernel
theorem dX12_tightens_145 : decode cX12_tightens 145 = .ok (.aload_n 0, 1) := by decide +kernel
theorem dX12_tightens_146 : decode cX12_tightens 146 = .ok (.getfield 26, 3) := by decide +kernel
theorem dX12_tightens_149 : decode cX12_tightens 149 = .ok (.iload_n 3, 1) := by decide +kernel
theorem dX12_tightens_150 : decode cX12_tightens 150 = .ok (.iaload, 1) := by decide +kernel
theorem dX12_tightens_151 : decode cX12_tightens 151 = .ok (.if_icmp .gt 20, 3) := by decide +kernel
theorem dX12_tightens_154 : decode cX12_tightens 154 = .ok (.aload_n 0, 1) := by decide +kernel
theorem dX12_tightens_155 : decode cX12_tightens 155 = .ok (.getfield 23, 3) := by decide +kernel
theorem dX12_tightens_158 : decode cX12_tightens 158 = .ok (.iload 4, 2) := by decide +kernel
theorem dX12_tightens_160 : decode cX12_tightens 160 = .ok (.iaload, 1) := by decide +kernel
theorem dX12_tightens_161 : decode cX12_tightens 161 = .ok (.aload_n 0, 1) := by decide +kernel
theorem dX12_tightens_162 : decode cX12_tightens 162 = .ok (.getfield 26, 3) := by decide +kernel
theorem dX12_tightens_165 : decode cX12_tightens 165 = .ok (.iload 4, 2) := by decide +kernel
theorem dX12_tightens_167 : decode cX12_tightens 167 = .ok (.iaload, 1) := by decide +kernel
theorem dX12_tightens_168 : decode cX12_tightens 168 = .ok (.if_icmp .le 5, 3) := by decide +kernel
theorem dX12_tightens_171 : decode cX12_tightens 171 = .ok (.iconst 0, 1) := by decide +kernel
theorem dX12_tightens_172 : decode cX12_tightens 172 = .ok (.ireturn, 1) := by decide +kernel
theorem dX12_tightens_173 : decode cX12_tightens 173 = .ok (.iinc 2 1, 3) := by decide +kernel
theorem dX12_tightens_176 : decode cX12_tightens 176 = .ok (.goto (-126), 3) := by decide +kernel
theorem dX12_tightens_179 : decode cX12_tightens 179 = .ok (.goto (-137), 3) := by decide +kernel
theorem dX12_tightens_182 : decode cX12_tightens 182 = .ok (.iconst 1, 1) := by decide +kernel
theorem dX12_tightens_183 : decode cX12_tightens 183 = .ok (.ireturn, 1) := by decide +kernel
theorem dX12_before_0 : decode cX12_before 0 = .ok (.aload_n 0, 1) := by decide +kernel
theorem dX12_before_1 : decode cX12_before 1 = .ok (.iload_n 1, 1) := by decide +kernel
theorem dX12_before_2 : decode cX12_before 2 = .ok (.invokevirtual 125, 3) := by decide +kernel
theorem dX12_before_5 : decode cX12_before 5 = .ok (.ifCond .eq 25, 3) := by decide +kernel
theorem dX12_before_8 : decode cX12_before 8 = .ok (.aload_n 0, 1) := by decide +kernel
theorem dX12_before_9 : decode cX12_before 9 = .ok (.iload_n 2, 1) := by decide +kernel
theorem dX12_before_10 : decode cX12_before 10 = .ok (.invokevirtual 125, 3) := by decide +kernel
theorem dX12_before_13 : decode cX12_before 13 = .ok (.ifCond .eq 17, 3) := by decide +kernel
theorem dX12_before_16 : decode cX12_before 16 = .ok (.iload_n 1, 1) := by decide +kernel
theorem dX12_before_17 : decode cX12_before 17 = .ok (.iload_n 2, 1) := by decide +kernel
theorem dX12_before_18 : decode cX12_before 18 = .ok (.if_icmp .eq 12, 3) := by decide +kernel
theorem dX12_before_21 : decode cX12_before 21 = .ok (.aload_n 0, 1) := by decide +kernel
theorem dX12_before_22 : decode cX12_before 22 = .ok (.getfield 122, 3) := by decide +kernel
theorem dX12_before_25 : decode cX12_before 25 = .ok (.bipush 60, 2) := by decide +kernel
theorem dX12_before_27 : decode cX12_before 27 = .ok (.if_icmp .ne 5, 3) := by decide +kernel
theorem dX12_before_30 : decode cX12_before 30 = .ok (.iconst 0, 1) := by decide +kernel
theorem dX12_before_31 : decode cX12_before 31 = .ok (.ireturn, 1) := by decide +kernel
theorem dX12_before_32 : decode cX12_before 32 = .ok (.iconst 0, 1) := by decide +kernel
theorem dX12_before_33 : decode cX12_before 33 = .ok (.istore_n 3, 1) := by decide +kernel
theorem dX12_before_34 : decode cX12_before 34 = .ok (.iload_n 3, 1) := by decide +kernel
theorem dX12_before_35 : decode cX12_before 35 = .ok (.aload_n 0, 1) := by decide +kernel
theorem dX12_before_36 : decode cX12_before 36 = .ok (.getfield 122, 3) := by decide +kernel
theorem dX12_before_39 : decode cX12_before 39 = .ok (.if_icmp .ge 31, 3) := by decide +kernel
theorem dX12_before_42 : decode cX12_before 42 = .ok (.aload_n 0, 1) := by decide +kernel
theorem dX12_before_43 : decode cX12_before 43 = .ok (.getfield 29, 3) := by decide +kernel
theorem dX12_before_46 : decode cX12_before 46 = .ok (.iload_n 3, 1) := by decide +kernel
theorem dX12_before_47 : decode cX12_before 47 = .ok (.iaload, 1) := by decide +kernel
theorem dX12_before_48 : decode cX12_before 48 = .ok (.iload_n 1, 1) := by decide +kernel
theorem dX12_before_49 : decode cX12_before 49 = .ok (.if_icmp .ne 15, 3) := by decide +kernel
theorem dX12_before_52 : decode cX12_before 52 = .ok (.aload_n 0, 1) := by decide +kernel
theorem dX12_before_53 : decode cX12_before 53 = .ok (.getfield 32, 3) := by decide +kernel
theorem dX12_before_56 : decode cX12_before 56 = .ok (.iload_n 3, 1) := by decide +kernel
theorem dX12_before_57 : decode cX12_before 57 = .ok (.iaload, 1) := by decide +kernel
theorem dX12_before_58 : decode cX12_before 58 = .ok (.iload_n 2, 1) := by decide +kernel
theorem dX12_before_59 : decode cX12_before 59 = .ok (.if_icmp .ne 5, 3) := by decide +kernel
theorem dX12_before_62 : decode cX12_before 62 = .ok (.iconst 0, 1) := by decide +kernel
theorem dX12_before_63 : decode cX12_before 63 = .ok (.ireturn, 1) := by decide +kernel
theorem dX12_before_64 : decode cX12_before 64 = .ok (.iinc 3 1, 3) := by decide +kernel
theorem dX12_before_67 : decode cX12_before 67 = .ok (.goto (-33), 3) := by decide +kernel
theorem dX12_before_70 : decode cX12_before 70 = .ok (.aload_n 0, 1) := by decide +kernel
theorem dX12_before_71 : decode cX12_before 71 = .ok (.getfield 29, 3) := by decide +kernel
theorem dX12_before_74 : decode cX12_before 74 = .ok (.aload_n 0, 1) := by decide +kernel
theorem dX12_before_75 : decode cX12_before 75 = .ok (.getfield 122, 3) := by decide +kernel
theorem dX12_before_78 : decode cX12_before 78 = .ok (.iload_n 1, 1) := by decide +kernel
theorem dX12_before_79 : decode cX12_before 79 = .ok (.iastore, 1) := by decide +kernel
theorem dX12_before_80 : decode cX12_before 80 = .ok (.aload_n 0, 1) := by decide +kernel
theorem dX12_before_81 : decode cX12_before 81 = .ok (.getfield 32, 3) := by decide +kernel
theorem dX12_before_84 : decode cX12_before 84 = .ok (.aload_n 0, 1) := by decide +kernel
theorem dX12_before_85 : decode cX12_before 85 = .ok (.getfield 122, 3) := by decide +kernel
theorem dX12_before_88 : decode cX12_before 88 = .ok (.iload_n 2, 1) := by decide +kernel
theorem dX12_before_89 : decode cX12_before 89 = .ok (.iastore, 1) := by decide +kernel
theorem dX12_before_90 : decode cX12_before 90 = .ok (.aload_n 0, 1) := by decide +kernel
theorem dX12_before_91 : decode cX12_before 91 = .ok (.aload_n 0, 1) := by decide +kernel
theorem dX12_before_92 : decode cX12_before 92 = .ok (.getfield 122, 3) := by decide +kernel
theorem dX12_before_95 : decode cX12_before 95 = .ok (.iconst 1, 1) := by decide +kernel
theorem dX12_before_96 : decode cX12_before 96 = .ok (.iadd, 1) := by decide +kernel
theorem dX12_before_97 : decode cX12_before 97 = .ok (.putfield 122, 3) := by decide +kernel
theorem dX12_before_100 : decode cX12_before 100 = .ok (.aload_n 0, 1) := by decide +kernel
theorem dX12_before_101 : decode cX12_before 101 = .ok (.invokevirtual 118, 3) := by decide +kernel
theorem dX12_before_104 : decode cX12_before 104 = .ok (.ifCond .eq 9, 3) := by decide +kernel
theorem dX12_before_107 : decode cX12_before 107 = .ok (.aload_n 0, 1) := by decide +kernel
theorem dX12_before_108 : decode cX12_before 108 = .ok (.invokevirtual 129, 3) := by decide +kernel
theorem dX12_before_111 : decode cX12_before 111 = .ok (.iconst 1, 1) := by decide +kernel
theorem dX12_before_112 : decode cX12_before 112 = .ok (.ireturn, 1) := by decide +kernel
theorem dX12_before_113 : decode cX12_before 113 = .ok (.aload_n 0, 1) := by decide +kernel
theorem dX12_before_114 : decode cX12_before 114 = .ok (.aload_n 0, 1) := by decide +kernel
theorem dX12_before_115 : decode cX12_before 115 = .ok (.getfield 122, 3) := by decide +kernel
theorem dX12_before_118 : decode cX12_before 118 = .ok (.iconst 1, 1) := by decide +kernel
theorem dX12_before_119 : decode cX12_before 119 = .ok (.isub, 1) := by decide +kernel
theorem dX12_before_120 : decode cX12_before 120 = .ok (.putfield 122, 3) := by decide +kernel
theorem dX12_before_123 : decode cX12_before 123 = .ok (.aload_n 0, 1) := by decide +kernel
theorem dX12_before_124 : decode cX12_before 124 = .ok (.invokevirtual 118, 3) := by decide +kernel
theorem dX12_before_127 : decode cX12_before 127 = .ok (.pop, 1) := by decide +kernel
theorem dX12_before_128 : decode cX12_before 128 = .ok (.iconst 0, 1) := by decide +kernel
theorem dX12_before_129 : decode cX12_before 129 = .ok (.ireturn, 1) := by decide +kernel
theorem dX12_closes_0 : decode cX12_closes 0 = .ok (.iconst 0, 1) := by decide +kernel
theorem dX12_closes_1 : decode cX12_closes 1 = .ok (.istore_n 1, 1) := by decide +kernel
theorem dX12_closes_2 : decode cX12_closes 2 = .ok (.iload_n 1, 1) := by decide +kernel
theorem dX12_closes_3 : decode cX12_closes 3 = .ok (.aload_n 0, 1) := by decide +kernel
theorem dX12_closes_4 : decode cX12_closes 4 = .ok (.getfield 122, 3) := by decide +kernel
theorem dX12_closes_7 : decode cX12_closes 7 = .ok (.if_icmp .ge 31, 3) := by decide +kernel
theorem dX12_closes_10 : decode cX12_closes 10 = .ok (.aload_n 0, 1) := by decide +kernel
theorem dX12_closes_11 : decode cX12_closes 11 = .ok (.getfield 35, 3) := by decide +kernel
theorem dX12_closes_14 : decode cX12_closes 14 = .ok (.bipush 30, 2) := by decide +kernel
theorem dX12_closes_16 : decode cX12_closes 16 = .ok (.aload_n 0, 1) := by decide +kernel
theorem dX12_closes_17 : decode cX12_closes 17 = .ok (.getfield 29, 3) := by decide +kernel
theorem dX12_closes_20 : decode cX12_closes 20 = .ok (.iload_n 1, 1) := by decide +kernel
theorem dX12_closes_21 : decode cX12_closes 21 = .ok (.iaload, 1) := by decide +kernel
theorem dX12_closes_22 : decode cX12_closes 22 = .ok (.imul, 1) := by decide +kernel
theorem dX12_closes_23 : decode cX12_closes 23 = .ok (.aload_n 0, 1) := by decide +kernel
theorem dX12_closes_24 : decode cX12_closes 24 = .ok (.getfield 32, 3) := by decide +kernel
theorem dX12_closes_27 : decode cX12_closes 27 = .ok (.iload_n 1, 1) := by decide +kernel
theorem dX12_closes_28 : decode cX12_closes 28 = .ok (.iaload, 1) := by decide +kernel
theorem dX12_closes_29 : decode cX12_closes 29 = .ok (.iadd, 1) := by decide +kernel
theorem dX12_closes_30 : decode cX12_closes 30 = .ok (.iconst 1, 1) := by decide +kernel
theorem dX12_closes_31 : decode cX12_closes 31 = .ok (.bastore, 1) := by decide +kernel
theorem dX12_closes_32 : decode cX12_closes 32 = .ok (.iinc 1 1, 3) := by decide +kernel
theorem dX12_closes_35 : decode cX12_closes 35 = .ok (.goto (-33), 3) := by decide +kernel
theorem dX12_closes_38 : decode cX12_closes 38 = .ok (.iconst 0, 1) := by decide +kernel
theorem dX12_closes_39 : decode cX12_closes 39 = .ok (.istore_n 1, 1) := by decide +kernel
theorem dX12_closes_40 : decode cX12_closes 40 = .ok (.iload_n 1, 1) := by decide +kernel
theorem dX12_closes_41 : decode cX12_closes 41 = .ok (.aload_n 0, 1) := by decide +kernel
theorem dX12_closes_42 : decode cX12_closes 42 = .ok (.getfield 111, 3) := by decide +kernel
theorem dX12_closes_45 : decode cX12_closes 45 = .ok (.if_icmp .ge 81, 3) := by decide +kernel
theorem dX12_closes_48 : decode cX12_closes 48 = .ok (.iconst 0, 1) := by decide +kernel
theorem dX12_closes_49 : decode cX12_closes 49 = .ok (.istore_n 2, 1) := by decide +kernel
theorem dX12_closes_50 : decode cX12_closes 50 = .ok (.iload_n 2, 1) := by decide +kernel
theorem dX12_closes_51 : decode cX12_closes 51 = .ok (.aload_n 0, 1) := by decide +kernel
theorem dX12_closes_52 : decode cX12_closes 52 = .ok (.getfield 111, 3) := by decide +kernel
theorem dX12_closes_55 : decode cX12_closes 55 = .ok (.if_icmp .ge 65, 3) := by decide +kernel
theorem dX12_closes_58 : decode cX12_closes 58 = .ok (.iconst 0, 1) := by decide +kernel
theorem dX12_closes_59 : decode cX12_closes 59 = .ok (.istore_n 3, 1) := by decide +kernel
theorem dX12_closes_60 : decode cX12_closes 60 = .ok (.iload_n 3, 1) := by decide +kernel
theorem dX12_closes_61 : decode cX12_closes 61 = .ok (.aload_n 0, 1) := by decide +kernel
theorem dX12_closes_62 : decode cX12_closes 62 = .ok (.getfield 111, 3) := by decide +kernel
theorem dX12_closes_65 : decode cX12_closes 65 = .ok (.if_icmp .ge 49, 3) := by decide +kernel
theorem dX12_closes_68 : decode cX12_closes 68 = .ok (.aload_n 0, 1) := by decide +kernel
theorem dX12_closes_69 : decode cX12_closes 69 = .ok (.getfield 35, 3) := by decide +kernel
theorem dX12_closes_72 : decode cX12_closes 72 = .ok (.bipush 30, 2) := by decide +kernel
theorem dX12_closes_74 : decode cX12_closes 74 = .ok (.iload_n 2, 1) := by decide +kernel
theorem dX12_closes_75 : decode cX12_closes 75 = .ok (.imul, 1) := by decide +kernel
theorem dX12_closes_76 : decode cX12_closes 76 = .ok (.iload_n 1, 1) := by decide +kernel
theorem dX12_closes_77 : decode cX12_closes 77 = .ok (.iadd, 1) := by decide +kernel
theorem dX12_closes_78 : decode cX12_closes 78 = .ok (.baload, 1) := by decide +kernel
theorem dX12_closes_79 : decode cX12_closes 79 = .ok (.ifCond .eq 29, 3) := by decide +kernel
theorem dX12_closes_82 : decode cX12_closes 82 = .ok (.aload_n 0, 1) := by decide +kernel
theorem dX12_closes_83 : decode cX12_closes 83 = .ok (.getfield 35, 3) := by decide +kernel
theorem dX12_closes_86 : decode cX12_closes 86 = .ok (.bipush 30, 2) := by decide +kernel
theorem dX12_closes_88 : decode cX12_closes 88 = .ok (.iload_n 1, 1) := by decide +kernel
theorem dX12_closes_89 : decode cX12_closes 89 = .ok (.imul, 1) := by decide +kernel
theorem dX12_closes_90 : decode cX12_closes 90 = .ok (.iload_n 3, 1) := by decide +kernel
theorem dX12_closes_91 : decode cX12_closes 91 = .ok (.iadd, 1) := by decide +kernel
theorem dX12_closes_92 : decode cX12_closes 92 = .ok (.baload, 1) := by decide +kernel
theorem dX12_closes_93 : decode cX12_closes 93 = .ok (.ifCond .eq 15, 3) := by decide +kernel
theorem dX12_closes_96 : decode cX12_closes 96 = .ok (.aload_n 0, 1) := by decide +kernel
theorem dX12_closes_97 : decode cX12_closes 97 = .ok (.getfield 35, 3) := by decide +kernel
theorem dX12_closes_100 : decode cX12_closes 100 = .ok (.bipush 30, 2) := by decide +kernel
theorem dX12_closes_102 : decode cX12_closes 102 = .ok (.iload_n 2, 1) := by decide +kernel
theorem dX12_closes_103 : decode cX12_closes 103 = .ok (.imul, 1) := by decide +kernel
theorem dX12_closes_104 : decode cX12_closes 104 = .ok (.iload_n 3, 1) := by decide +kernel
theorem dX12_closes_105 : decode cX12_closes 105 = .ok (.iadd, 1) := by decide +kernel
theorem dX12_closes_106 : decode cX12_closes 106 = .ok (.iconst 1, 1) := by decide +kernel
theorem dX12_closes_107 : decode cX12_closes 107 = .ok (.bastore, 1) := by decide +kernel
theorem dX12_closes_108 : decode cX12_closes 108 = .ok (.iinc 3 1, 3) := by decide +kernel
theorem dX12_closes_111 : decode cX12_closes 111 = .ok (.goto (-51), 3) := by decide +kernel
theorem dX12_closes_114 : decode cX12_closes 114 = .ok (.iinc 2 1, 3) := by decide +kernel
theorem dX12_closes_117 : decode cX12_closes 117 = .ok (.goto (-67), 3) := by decide +kernel
theorem dX12_closes_120 : decode cX12_closes 120 = .ok (.iinc 1 1, 3) := by decide +kernel
theorem dX12_closes_123 : decode cX12_closes 123 = .ok (.goto (-83), 3) := by decide +kernel
theorem dX12_closes_126 : decode cX12_closes 126 = .ok (.return_, 1) := by decide +kernel
theorem dX12_span_0 : decode cX12_span 0 = .ok (.aload_n 0, 1) := by decide +kernel
theorem dX12_span_1 : decode cX12_span 1 = .ok (.iload_n 1, 1) := by decide +kernel
theorem dX12_span_2 : decode cX12_span 2 = .ok (.invokevirtual 125, 3) := by decide +kernel
theorem dX12_span_5 : decode cX12_span 5 = .ok (.ifCond .ne 5, 3) := by decide +kernel
theorem dX12_span_8 : decode cX12_span 8 = .ok (.iconst (-1), 1) := by decide +kernel
theorem dX12_span_9 : decode cX12_span 9 = .ok (.ireturn, 1) := by decide +kernel
theorem dX12_span_10 : decode cX12_span 10 = .ok (.iconst 0, 1) := by decide +kernel
theorem dX12_span_11 : decode cX12_span 11 = .ok (.istore_n 3, 1) := by decide +kernel
theorem dX12_span_12 : decode cX12_span 12 = .ok (.iload_n 2, 1) := by decide +kernel
theorem dX12_span_13 : decode cX12_span 13 = .ok (.tableswitch 102 0 4 #[35, 42, 49, 56, 63], 35) := by decide +kernel
theorem dX12_span_48 : decode cX12_span 48 = .ok (.aload_n 0, 1) := by decide +kernel
theorem dX12_span_49 : decode cX12_span 49 = .ok (.getfield 23, 3) := by decide +kernel
theorem dX12_span_52 : decode cX12_span 52 = .ok (.iload_n 1, 1) := by decide +kernel
theorem dX12_span_53 : decode cX12_span 53 = .ok (.iaload, 1) := by decide +kernel
theorem dX12_span_54 : decode cX12_span 54 = .ok (.ireturn, 1) := by decide +kernel
theorem dX12_span_55 : decode cX12_span 55 = .ok (.aload_n 0, 1) := by decide +kernel
theorem dX12_span_56 : decode cX12_span 56 = .ok (.getfield 26, 3) := by decide +kernel
theorem dX12_span_59 : decode cX12_span 59 = .ok (.iload_n 1, 1) := by decide +kernel
theorem dX12_span_60 : decode cX12_span 60 = .ok (.iaload, 1) := by decide +kernel
theorem dX12_span_61 : decode cX12_span 61 = .ok (.ireturn, 1) := by decide +kernel
theorem dX12_span_62 : decode cX12_span 62 = .ok (.aload_n 0, 1) := by decide +kernel
theorem dX12_span_63 : decode cX12_span 63 = .ok (.getfield 16, 3) := by decide +kernel
theorem dX12_span_66 : decode cX12_span 66 = .ok (.iload_n 1, 1) := by decide +kernel
theorem dX12_span_67 : decode cX12_span 67 = .ok (.iaload, 1) := by decide +kernel
theorem dX12_span_68 : decode cX12_span 68 = .ok (.ireturn, 1) := by decide +kernel
theorem dX12_span_69 : decode cX12_span 69 = .ok (.aload_n 0, 1) := by decide +kernel
theorem dX12_span_70 : decode cX12_span 70 = .ok (.getfield 20, 3) := by decide +kernel
theorem dX12_span_73 : decode cX12_span 73 = .ok (.iload_n 1, 1) := by decide +kernel
theorem dX12_span_74 : decode cX12_span 74 = .ok (.iaload, 1) := by decide +kernel
theorem dX12_span_75 : decode cX12_span 75 = .ok (.ireturn, 1) := by decide +kernel
theorem dX12_span_76 : decode cX12_span 76 = .ok (.iconst 0, 1) := by decide +kernel
theorem dX12_span_77 : decode cX12_span 77 = .ok (.istore 4, 2) := by decide +kernel
theorem dX12_span_79 : decode cX12_span 79 = .ok (.iload 4, 2) := by decide +kernel
theorem dX12_span_81 : decode cX12_span 81 = .ok (.aload_n 0, 1) := by decide +kernel
theorem dX12_span_82 : decode cX12_span 82 = .ok (.getfield 132, 3) := by decide +kernel
theorem dX12_span_85 : decode cX12_span 85 = .ok (.if_icmp .ge 28, 3) := by decide +kernel
theorem dX12_span_88 : decode cX12_span 88 = .ok (.iload_n 3, 1) := by decide +kernel
theorem dX12_span_89 : decode cX12_span 89 = .ok (.aload_n 0, 1) := by decide +kernel
theorem dX12_span_90 : decode cX12_span 90 = .ok (.getfield 39, 3) := by decide +kernel
theorem dX12_span_93 : decode cX12_span 93 = .ok (.iload 4, 2) := by decide +kernel
theorem dX12_span_95 : decode cX12_span 95 = .ok (.iaload, 1) := by decide +kernel
theorem dX12_span_96 : decode cX12_span 96 = .ok (.iload_n 1, 1) := by decide +kernel
theorem dX12_span_97 : decode cX12_span 97 = .ok (.if_icmp .ne 7, 3) := by decide +kernel
theorem dX12_span_100 : decode cX12_span 100 = .ok (.iconst 1, 1) := by decide +kernel
theorem dX12_span_101 : decode cX12_span 101 = .ok (.goto 4, 3) := by decide +kernel
theorem dX12_span_104 : decode cX12_span 104 = .ok (.iconst 0, 1) := by decide +kernel
theorem dX12_span_105 : decode cX12_span 105 = .ok (.iadd, 1) := by decide +kernel
theorem dX12_span_106 : decode cX12_span 106 = .ok (.istore_n 3, 1) := by decide +kernel
theorem dX12_span_107 : decode cX12_span 107 = .ok (.iinc 4 1, 3) := by decide +kernel
theorem dX12_span_110 : decode cX12_span 110 = .ok (.goto (-31), 3) := by decide +kernel
theorem dX12_span_113 : decode cX12_span 113 = .ok (.iload_n 3, 1) := by decide +kernel
theorem dX12_span_114 : decode cX12_span 114 = .ok (.ireturn, 1) := by decide +kernel
theorem dX12_span_115 : decode cX12_span 115 = .ok (.iconst (-1), 1) := by decide +kernel
theorem dX12_span_116 : decode cX12_span 116 = .ok (.ireturn, 1) := by decide +kernel
theorem dX12_isWordSize_0 : decode cX12_isWordSize 0 = .ok (.iload_n 1, 1) := by decide +kernel
theorem dX12_isWordSize_1 : decode cX12_isWordSize 1 = .ok (.iconst 1, 1) := by decide +kernel
theorem dX12_isWordSize_2 : decode cX12_isWordSize 2 = .ok (.if_icmp .lt 21, 3) := by decide +kernel
theorem dX12_isWordSize_5 : decode cX12_isWordSize 5 = .ok (.iload_n 1, 1) := by decide +kernel
theorem dX12_isWordSize_6 : decode cX12_isWordSize 6 = .ok (.bipush 8, 2) := by decide +kernel
theorem dX12_isWordSize_8 : decode cX12_isWordSize 8 = .ok (.if_icmp .gt 15, 3) := by decide +kernel
theorem dX12_isWordSize_11 : decode cX12_isWordSize 11 = .ok (.iload_n 1, 1) := by decide +kernel
theorem dX12_isWordSize_12 : decode cX12_isWordSize 12 = .ok (.aload_n 0, 1) := by decide +kernel
theorem dX12_isWordSize_13 : decode cX12_isWordSize 13 = .ok (.getfield 103, 3) := by decide +kernel
theorem dX12_isWordSize_16 : decode cX12_isWordSize 16 = .ok (.if_icmp .gt 7, 3) := by decide +kernel
theorem dX12_isWordSize_19 : decode cX12_isWordSize 19 = .ok (.iconst 1, 1) := by decide +kernel
theorem dX12_isWordSize_20 : decode cX12_isWordSize 20 = .ok (.goto 4, 3) := by decide +kernel
theorem dX12_isWordSize_23 : decode cX12_isWordSize 23 = .ok (.iconst 0, 1) := by decide +kernel
theorem dX12_isWordSize_24 : decode cX12_isWordSize 24 = .ok (.ireturn, 1) := by decide +kernel
theorem dX12_slip_0 : decode cX12_slip 0 = .ok (.aload_n 0, 1) := by decide +kernel
theorem dX12_slip_1 : decode cX12_slip 1 = .ok (.iload_n 1, 1) := by decide +kernel
theorem dX12_slip_2 : decode cX12_slip 2 = .ok (.invokevirtual 125, 3) := by decide +kernel
theorem dX12_slip_5 : decode cX12_slip 5 = .ok (.ifCond .eq 20, 3) := by decide +kernel
theorem dX12_slip_8 : decode cX12_slip 8 = .ok (.aload_n 0, 1) := by decide +kernel
theorem dX12_slip_9 : decode cX12_slip 9 = .ok (.getfield 132, 3) := by decide +kernel
theorem dX12_slip_12 : decode cX12_slip 12 = .ok (.bipush 120, 2) := by decide +kernel
theorem dX12_slip_14 : decode cX12_slip 14 = .ok (.if_icmp .eq 11, 3) := by decide +kernel
theorem dX12_slip_17 : decode cX12_slip 17 = .ok (.aload_n 0, 1) := by decide +kernel
theorem dX12_slip_18 : decode cX12_slip 18 = .ok (.iload_n 2, 1) := by decide +kernel
theorem dX12_slip_19 : decode cX12_slip 19 = .ok (.invokevirtual 135, 3) := by decide +kernel
theorem dX12_slip_22 : decode cX12_slip 22 = .ok (.ifCond .ne 5, 3) := by decide +kernel
theorem dX12_slip_25 : decode cX12_slip 25 = .ok (.iconst (-1), 1) := by decide +kernel
theorem dX12_slip_26 : decode cX12_slip 26 = .ok (.ireturn, 1) := by decide +kernel
theorem dX12_slip_27 : decode cX12_slip 27 = .ok (.aload_n 0, 1) := by decide +kernel
theorem dX12_slip_28 : decode cX12_slip 28 = .ok (.iload_n 2, 1) := by decide +kernel
theorem dX12_slip_29 : decode cX12_slip 29 = .ok (.invokevirtual 138, 3) := by decide +kernel
theorem dX12_slip_32 : decode cX12_slip 32 = .ok (.aload_n 0, 1) := by decide +kernel
theorem dX12_slip_33 : decode cX12_slip 33 = .ok (.iconst 0, 1) := by decide +kernel
theorem dX12_slip_34 : decode cX12_slip 34 = .ok (.iload_n 2, 1) := by decide +kernel
theorem dX12_slip_35 : decode cX12_slip 35 = .ok (.invokevirtual 141, 3) := by decide +kernel
theorem dX12_slip_38 : decode cX12_slip 38 = .ok (.lstore_n 3, 1) := by decide +kernel
theorem dX12_slip_39 : decode cX12_slip 39 = .ok (.lload_n 3, 1) := by decide +kernel
theorem dX12_slip_40 : decode cX12_slip 40 = .ok (.lconst 0, 1) := by decide +kernel
theorem dX12_slip_41 : decode cX12_slip 41 = .ok (.lcmp, 1) := by decide +kernel
theorem dX12_slip_42 : decode cX12_slip 42 = .ok (.ifCond .ne 5, 3) := by decide +kernel
theorem dX12_slip_45 : decode cX12_slip 45 = .ok (.iconst (-1), 1) := by decide +kernel
theorem dX12_slip_46 : decode cX12_slip 46 = .ok (.ireturn, 1) := by decide +kernel
theorem dX12_slip_47 : decode cX12_slip 47 = .ok (.aload_n 0, 1) := by decide +kernel
theorem dX12_slip_48 : decode cX12_slip 48 = .ok (.getfield 39, 3) := by decide +kernel
theorem dX12_slip_51 : decode cX12_slip 51 = .ok (.aload_n 0, 1) := by decide +kernel
theorem dX12_slip_52 : decode cX12_slip 52 = .ok (.getfield 132, 3) := by decide +kernel
theorem dX12_slip_55 : decode cX12_slip 55 = .ok (.iload_n 1, 1) := by decide +kernel
theorem dX12_slip_56 : decode cX12_slip 56 = .ok (.iastore, 1) := by decide +kernel
theorem dX12_slip_57 : decode cX12_slip 57 = .ok (.aload_n 0, 1) := by decide +kernel
theorem dX12_slip_58 : decode cX12_slip 58 = .ok (.getfield 48, 3) := by decide +kernel
theorem dX12_slip_61 : decode cX12_slip 61 = .ok (.aload_n 0, 1) := by decide +kernel
theorem dX12_slip_62 : decode cX12_slip 62 = .ok (.getfield 132, 3) := by decide +kernel
theorem dX12_slip_65 : decode cX12_slip 65 = .ok (.lload_n 3, 1) := by decide +kernel
theorem dX12_slip_66 : decode cX12_slip 66 = .ok (.lastore, 1) := by decide +kernel
theorem dX12_slip_67 : decode cX12_slip 67 = .ok (.aload_n 0, 1) := by decide +kernel
theorem dX12_slip_68 : decode cX12_slip 68 = .ok (.getfield 42, 3) := by decide +kernel
theorem dX12_slip_71 : decode cX12_slip 71 = .ok (.aload_n 0, 1) := by decide +kernel
theorem dX12_slip_72 : decode cX12_slip 72 = .ok (.getfield 132, 3) := by decide +kernel
theorem dX12_slip_75 : decode cX12_slip 75 = .ok (.iconst (-1), 1) := by decide +kernel
theorem dX12_slip_76 : decode cX12_slip 76 = .ok (.iastore, 1) := by decide +kernel
theorem dX12_slip_77 : decode cX12_slip 77 = .ok (.aload_n 0, 1) := by decide +kernel
theorem dX12_slip_78 : decode cX12_slip 78 = .ok (.getfield 45, 3) := by decide +kernel
theorem dX12_slip_81 : decode cX12_slip 81 = .ok (.aload_n 0, 1) := by decide +kernel
theorem dX12_slip_82 : decode cX12_slip 82 = .ok (.getfield 132, 3) := by decide +kernel
theorem dX12_slip_85 : decode cX12_slip 85 = .ok (.iconst (-1), 1) := by decide +kernel
theorem dX12_slip_86 : decode cX12_slip 86 = .ok (.iastore, 1) := by decide +kernel
theorem dX12_slip_87 : decode cX12_slip 87 = .ok (.aload_n 0, 1) := by decide +kernel
theorem dX12_slip_88 : decode cX12_slip 88 = .ok (.aload_n 0, 1) := by decide +kernel
theorem dX12_slip_89 : decode cX12_slip 89 = .ok (.getfield 132, 3) := by decide +kernel
theorem dX12_slip_92 : decode cX12_slip 92 = .ok (.iconst 1, 1) := by decide +kernel
theorem dX12_slip_93 : decode cX12_slip 93 = .ok (.iadd, 1) := by decide +kernel
theorem dX12_slip_94 : decode cX12_slip 94 = .ok (.putfield 132, 3) := by decide +kernel
theorem dX12_slip_97 : decode cX12_slip 97 = .ok (.aload_n 0, 1) := by decide +kernel
theorem dX12_slip_98 : decode cX12_slip 98 = .ok (.getfield 132, 3) := by decide +kernel
theorem dX12_slip_101 : decode cX12_slip 101 = .ok (.iconst 1, 1) := by decide +kernel
theorem dX12_slip_102 : decode cX12_slip 102 = .ok (.isub, 1) := by decide +kernel
theorem dX12_slip_103 : decode cX12_slip 103 = .ok (.ireturn, 1) := by decide +kernel
theorem dX12_lays_0 : decode cX12_lays 0 = .ok (.iconst 5, 1) := by decide +kernel
theorem dX12_lays_1 : decode cX12_lays 1 = .ok (.iload_n 1, 1) := by decide +kernel
theorem dX12_lays_2 : decode cX12_lays 2 = .ok (.imul, 1) := by decide +kernel
theorem dX12_lays_3 : decode cX12_lays 3 = .ok (.aload_n 0, 1) := by decide +kernel
theorem dX12_lays_4 : decode cX12_lays 4 = .ok (.getfield 55, 3) := by decide +kernel
theorem dX12_lays_7 : decode cX12_lays 7 = .ok (.iload_n 1, 1) := by decide +kernel
theorem dX12_lays_8 : decode cX12_lays 8 = .ok (.iaload, 1) := by decide +kernel
theorem dX12_lays_9 : decode cX12_lays 9 = .ok (.iadd, 1) := by decide +kernel
theorem dX12_lays_10 : decode cX12_lays 10 = .ok (.istore 6, 2) := by decide +kernel
theorem dX12_lays_12 : decode cX12_lays 12 = .ok (.aload_n 0, 1) := by decide +kernel
theorem dX12_lays_13 : decode cX12_lays 13 = .ok (.getfield 64, 3) := by decide +kernel
theorem dX12_lays_16 : decode cX12_lays 16 = .ok (.iload 6, 2) := by decide +kernel
theorem dX12_lays_18 : decode cX12_lays 18 = .ok (.lload_n 2, 1) := by decide +kernel
theorem dX12_lays_19 : decode cX12_lays 19 = .ok (.lastore, 1) := by decide +kernel
theorem dX12_lays_20 : decode cX12_lays 20 = .ok (.aload_n 0, 1) := by decide +kernel
theorem dX12_lays_21 : decode cX12_lays 21 = .ok (.getfield 58, 3) := by decide +kernel
theorem dX12_lays_24 : decode cX12_lays 24 = .ok (.iload 6, 2) := by decide +kernel
theorem dX12_lays_26 : decode cX12_lays 26 = .ok (.iload 4, 2) := by decide +kernel
theorem dX12_lays_28 : decode cX12_lays 28 = .ok (.iastore, 1) := by decide +kernel
theorem dX12_lays_29 : decode cX12_lays 29 = .ok (.aload_n 0, 1) := by decide +kernel
theorem dX12_lays_30 : decode cX12_lays 30 = .ok (.getfield 61, 3) := by decide +kernel
theorem dX12_lays_33 : decode cX12_lays 33 = .ok (.iload 6, 2) := by decide +kernel
theorem dX12_lays_35 : decode cX12_lays 35 = .ok (.iload 5, 2) := by decide +kernel
theorem dX12_lays_37 : decode cX12_lays 37 = .ok (.iastore, 1) := by decide +kernel
theorem dX12_lays_38 : decode cX12_lays 38 = .ok (.aload_n 0, 1) := by decide +kernel
theorem dX12_lays_39 : decode cX12_lays 39 = .ok (.getfield 55, 3) := by decide +kernel
theorem dX12_lays_42 : decode cX12_lays 42 = .ok (.iload_n 1, 1) := by decide +kernel
theorem dX12_lays_43 : decode cX12_lays 43 = .ok (.aload_n 0, 1) := by decide +kernel
theorem dX12_lays_44 : decode cX12_lays 44 = .ok (.getfield 55, 3) := by decide +kernel
theorem dX12_lays_47 : decode cX12_lays 47 = .ok (.iload_n 1, 1) := by decide +kernel
theorem dX12_lays_48 : decode cX12_lays 48 = .ok (.iaload, 1) := by decide +kernel
theorem dX12_lays_49 : decode cX12_lays 49 = .ok (.iconst 1, 1) := by decide +kernel
theorem dX12_lays_50 : decode cX12_lays 50 = .ok (.iadd, 1) := by decide +kernel
theorem dX12_lays_51 : decode cX12_lays 51 = .ok (.iastore, 1) := by decide +kernel
theorem dX12_lays_52 : decode cX12_lays 52 = .ok (.return_, 1) := by decide +kernel
theorem dX12_entry_0 : decode cX12_entry 0 = .ok (.iload_n 2, 1) := by decide +kernel
theorem dX12_entry_1 : decode cX12_entry 1 = .ok (.iload_n 3, 1) := by decide +kernel
theorem dX12_entry_2 : decode cX12_entry 2 = .ok (.invokestatic 114, 3) := by decide +kernel
theorem dX12_entry_5 : decode cX12_entry 5 = .ok (.ifCond .eq 20, 3) := by decide +kernel
theorem dX12_entry_8 : decode cX12_entry 8 = .ok (.aload_n 0, 1) := by decide +kernel
theorem dX12_entry_9 : decode cX12_entry 9 = .ok (.getfield 145, 3) := by decide +kernel
theorem dX12_entry_12 : decode cX12_entry 12 = .ok (.bipush 12, 2) := by decide +kernel
theorem dX12_entry_14 : decode cX12_entry 14 = .ok (.if_icmp .eq 11, 3) := by decide +kernel
theorem dX12_entry_17 : decode cX12_entry 17 = .ok (.aload_n 0, 1) := by decide +kernel
theorem dX12_entry_18 : decode cX12_entry 18 = .ok (.iload_n 1, 1) := by decide +kernel
theorem dX12_entry_19 : decode cX12_entry 19 = .ok (.invokevirtual 135, 3) := by decide +kernel
theorem dX12_entry_22 : decode cX12_entry 22 = .ok (.ifCond .ne 5, 3) := by decide +kernel
theorem dX12_entry_25 : decode cX12_entry 25 = .ok (.iconst (-1), 1) := by decide +kernel
theorem dX12_entry_26 : decode cX12_entry 26 = .ok (.ireturn, 1) := by decide +kernel
theorem dX12_entry_27 : decode cX12_entry 27 = .ok (.aload_n 0, 1) := by decide +kernel
theorem dX12_entry_28 : decode cX12_entry 28 = .ok (.iload_n 1, 1) := by decide +kernel
theorem dX12_entry_29 : decode cX12_entry 29 = .ok (.invokevirtual 138, 3) := by decide +kernel
theorem dX12_entry_32 : decode cX12_entry 32 = .ok (.aload_n 0, 1) := by decide +kernel
theorem dX12_entry_33 : decode cX12_entry 33 = .ok (.iconst 0, 1) := by decide +kernel
theorem dX12_entry_34 : decode cX12_entry 34 = .ok (.iload_n 1, 1) := by decide +kernel
theorem dX12_entry_35 : decode cX12_entry 35 = .ok (.invokevirtual 141, 3) := by decide +kernel
theorem dX12_entry_38 : decode cX12_entry 38 = .ok (.lstore 4, 2) := by decide +kernel
theorem dX12_entry_40 : decode cX12_entry 40 = .ok (.lload 4, 2) := by decide +kernel
theorem dX12_entry_42 : decode cX12_entry 42 = .ok (.lconst 0, 1) := by decide +kernel
theorem dX12_entry_43 : decode cX12_entry 43 = .ok (.lcmp, 1) := by decide +kernel
theorem dX12_entry_44 : decode cX12_entry 44 = .ok (.ifCond .ne 5, 3) := by decide +kernel
theorem dX12_entry_47 : decode cX12_entry 47 = .ok (.iconst (-1), 1) := by decide +kernel
theorem dX12_entry_48 : decode cX12_entry 48 = .ok (.ireturn, 1) := by decide +kernel
theorem dX12_entry_49 : decode cX12_entry 49 = .ok (.aload_n 0, 1) := by decide +kernel
theorem dX12_entry_50 : decode cX12_entry 50 = .ok (.getfield 55, 3) := by decide +kernel
theorem dX12_entry_53 : decode cX12_entry 53 = .ok (.aload_n 0, 1) := by decide +kernel
theorem dX12_entry_54 : decode cX12_entry 54 = .ok (.getfield 145, 3) := by decide +kernel
theorem dX12_entry_57 : decode cX12_entry 57 = .ok (.iconst 0, 1) := by decide +kernel
theorem dX12_entry_58 : decode cX12_entry 58 = .ok (.iastore, 1) := by decide +kernel
theorem dX12_entry_59 : decode cX12_entry 59 = .ok (.aload_n 0, 1) := by decide +kernel
theorem dX12_entry_60 : decode cX12_entry 60 = .ok (.aload_n 0, 1) := by decide +kernel
theorem dX12_entry_61 : decode cX12_entry 61 = .ok (.getfield 145, 3) := by decide +kernel
theorem dX12_entry_64 : decode cX12_entry 64 = .ok (.lload 4, 2) := by decide +kernel
theorem dX12_entry_66 : decode cX12_entry 66 = .ok (.iload_n 2, 1) := by decide +kernel
theorem dX12_entry_67 : decode cX12_entry 67 = .ok (.iload_n 3, 1) := by decide +kernel
theorem dX12_entry_68 : decode cX12_entry 68 = .ok (.invokevirtual 148, 3) := by decide +kernel
theorem dX12_entry_71 : decode cX12_entry 71 = .ok (.aload_n 0, 1) := by decide +kernel
theorem dX12_entry_72 : decode cX12_entry 72 = .ok (.aload_n 0, 1) := by decide +kernel
theorem dX12_entry_73 : decode cX12_entry 73 = .ok (.getfield 145, 3) := by decide +kernel
theorem dX12_entry_76 : decode cX12_entry 76 = .ok (.iconst 1, 1) := by decide +kernel
theorem dX12_entry_77 : decode cX12_entry 77 = .ok (.iadd, 1) := by decide +kernel
theorem dX12_entry_78 : decode cX12_entry 78 = .ok (.putfield 145, 3) := by decide +kernel
theorem dX12_entry_81 : decode cX12_entry 81 = .ok (.aload_n 0, 1) := by decide +kernel
theorem dX12_entry_82 : decode cX12_entry 82 = .ok (.getfield 145, 3) := by decide +kernel
theorem dX12_entry_85 : decode cX12_entry 85 = .ok (.iconst 1, 1) := by decide +kernel
theorem dX12_entry_86 : decode cX12_entry 86 = .ok (.isub, 1) := by decide +kernel
theorem dX12_entry_87 : decode cX12_entry 87 = .ok (.ireturn, 1) := by decide +kernel
theorem dX12_isEntry_0 : decode cX12_isEntry 0 = .ok (.iload_n 1, 1) := by decide +kernel
theorem dX12_isEntry_1 : decode cX12_isEntry 1 = .ok (.ifCond .lt 15, 3) := by decide +kernel
theorem dX12_isEntry_4 : decode cX12_isEntry 4 = .ok (.iload_n 1, 1) := by decide +kernel
theorem dX12_isEntry_5 : decode cX12_isEntry 5 = .ok (.aload_n 0, 1) := by decide +kernel
theorem dX12_isEntry_6 : decode cX12_isEntry 6 = .ok (.getfield 145, 3) := by decide +kernel
theorem dX12_isEntry_9 : decode cX12_isEntry 9 = .ok (.if_icmp .ge 7, 3) := by decide +kernel
theorem dX12_isEntry_12 : decode cX12_isEntry 12 = .ok (.iconst 1, 1) := by decide +kernel
theorem dX12_isEntry_13 : decode cX12_isEntry 13 = .ok (.goto 4, 3) := by decide +kernel
theorem dX12_isEntry_16 : decode cX12_isEntry 16 = .ok (.iconst 0, 1) := by decide +kernel
theorem dX12_isEntry_17 : decode cX12_isEntry 17 = .ok (.ireturn, 1) := by decide +kernel
theorem dX12_form_0 : decode cX12_form 0 = .ok (.aload_n 0, 1) := by decide +kernel
theorem dX12_form_1 : decode cX12_form 1 = .ok (.iload_n 1, 1) := by decide +kernel
theorem dX12_form_2 : decode cX12_form 2 = .ok (.invokevirtual 152, 3) := by decide +kernel
theorem dX12_form_5 : decode cX12_form 5 = .ok (.ifCond .eq 30, 3) := by decide +kernel
theorem dX12_form_8 : decode cX12_form 8 = .ok (.iload_n 3, 1) := by decide +kernel
theorem dX12_form_9 : decode cX12_form 9 = .ok (.iload 4, 2) := by decide +kernel
theorem dX12_form_11 : decode cX12_form 11 = .ok (.invokestatic 114, 3) := by decide +kernel
theorem dX12_form_14 : decode cX12_form 14 = .ok (.ifCond .eq 21, 3) := by decide +kernel
theorem dX12_form_17 : decode cX12_form 17 = .ok (.aload_n 0, 1) := by decide +kernel
theorem dX12_form_18 : decode cX12_form 18 = .ok (.getfield 55, 3) := by decide +kernel
theorem dX12_form_21 : decode cX12_form 21 = .ok (.iload_n 1, 1) := by decide +kernel
theorem dX12_form_22 : decode cX12_form 22 = .ok (.iaload, 1) := by decide +kernel
theorem dX12_form_23 : decode cX12_form 23 = .ok (.iconst 5, 1) := by decide +kernel
theorem dX12_form_24 : decode cX12_form 24 = .ok (.if_icmp .eq 11, 3) := by decide +kernel
theorem dX12_form_27 : decode cX12_form 27 = .ok (.aload_n 0, 1) := by decide +kernel
theorem dX12_form_28 : decode cX12_form 28 = .ok (.iload_n 2, 1) := by decide +kernel
theorem dX12_form_29 : decode cX12_form 29 = .ok (.invokevirtual 135, 3) := by decide +kernel
theorem dX12_form_32 : decode cX12_form 32 = .ok (.ifCond .ne 5, 3) := by decide +kernel
theorem dX12_form_35 : decode cX12_form 35 = .ok (.iconst (-1), 1) := by decide +kernel
theorem dX12_form_36 : decode cX12_form 36 = .ok (.ireturn, 1) := by decide +kernel
theorem dX12_form_37 : decode cX12_form 37 = .ok (.aload_n 0, 1) := by decide +kernel
theorem dX12_form_38 : decode cX12_form 38 = .ok (.iload_n 2, 1) := by decide +kernel
theorem dX12_form_39 : decode cX12_form 39 = .ok (.invokevirtual 138, 3) := by decide +kernel
theorem dX12_form_42 : decode cX12_form 42 = .ok (.aload_n 0, 1) := by decide +kernel
theorem dX12_form_43 : decode cX12_form 43 = .ok (.iconst 0, 1) := by decide +kernel
theorem dX12_form_44 : decode cX12_form 44 = .ok (.iload_n 2, 1) := by decide +kernel
theorem dX12_form_45 : decode cX12_form 45 = .ok (.invokevirtual 141, 3) := by decide +kernel
theorem dX12_form_48 : decode cX12_form 48 = .ok (.lstore 5, 2) := by decide +kernel
theorem dX12_form_50 : decode cX12_form 50 = .ok (.lload 5, 2) := by decide +kernel
theorem dX12_form_52 : decode cX12_form 52 = .ok (.lconst 0, 1) := by decide +kernel
theorem dX12_form_53 : decode cX12_form 53 = .ok (.lcmp, 1) := by decide +kernel
theorem dX12_form_54 : decode cX12_form 54 = .ok (.ifCond .ne 5, 3) := by decide +kernel
theorem dX12_form_57 : decode cX12_form 57 = .ok (.iconst (-1), 1) := by decide +kernel
theorem dX12_form_58 : decode cX12_form 58 = .ok (.ireturn, 1) := by decide +kernel
theorem dX12_form_59 : decode cX12_form 59 = .ok (.aload_n 0, 1) := by decide +kernel
theorem dX12_form_60 : decode cX12_form 60 = .ok (.iload_n 1, 1) := by decide +kernel
theorem dX12_form_61 : decode cX12_form 61 = .ok (.lload 5, 2) := by decide +kernel
theorem dX12_form_63 : decode cX12_form 63 = .ok (.iload_n 3, 1) := by decide +kernel
theorem dX12_form_64 : decode cX12_form 64 = .ok (.iload 4, 2) := by decide +kernel
theorem dX12_form_66 : decode cX12_form 66 = .ok (.invokevirtual 148, 3) := by decide +kernel
theorem dX12_form_69 : decode cX12_form 69 = .ok (.aload_n 0, 1) := by decide +kernel
theorem dX12_form_70 : decode cX12_form 70 = .ok (.getfield 55, 3) := by decide +kernel
theorem dX12_form_73 : decode cX12_form 73 = .ok (.iload_n 1, 1) := by decide +kernel
theorem dX12_form_74 : decode cX12_form 74 = .ok (.iaload, 1) := by decide +kernel
theorem dX12_form_75 : decode cX12_form 75 = .ok (.ireturn, 1) := by decide +kernel
theorem dX12_rule_0 : decode cX12_rule 0 = .ok (.iload_n 1, 1) := by decide +kernel
theorem dX12_rule_1 : decode cX12_rule 1 = .ok (.iconst 1, 1) := by decide +kernel
theorem dX12_rule_2 : decode cX12_rule 2 = .ok (.if_icmp .lt 37, 3) := by decide +kernel
theorem dX12_rule_5 : decode cX12_rule 5 = .ok (.iload_n 1, 1) := by decide +kernel
theorem dX12_rule_6 : decode cX12_rule 6 = .ok (.iconst 2, 1) := by decide +kernel
theorem dX12_rule_7 : decode cX12_rule 7 = .ok (.if_icmp .gt 32, 3) := by decide +kernel
theorem dX12_rule_10 : decode cX12_rule 10 = .ok (.iload_n 2, 1) := by decide +kernel
theorem dX12_rule_11 : decode cX12_rule 11 = .ok (.iconst 1, 1) := by decide +kernel
theorem dX12_rule_12 : decode cX12_rule 12 = .ok (.if_icmp .lt 27, 3) := by decide +kernel
theorem dX12_rule_15 : decode cX12_rule 15 = .ok (.iload_n 2, 1) := by decide +kernel
theorem dX12_rule_16 : decode cX12_rule 16 = .ok (.iconst 2, 1) := by decide +kernel
theorem dX12_rule_17 : decode cX12_rule 17 = .ok (.if_icmp .gt 22, 3) := by decide +kernel
theorem dX12_rule_20 : decode cX12_rule 20 = .ok (.aload_n 0, 1) := by decide +kernel
theorem dX12_rule_21 : decode cX12_rule 21 = .ok (.getfield 155, 3) := by decide +kernel
theorem dX12_rule_24 : decode cX12_rule 24 = .ok (.bipush 10, 2) := by decide +kernel
theorem dX12_rule_26 : decode cX12_rule 26 = .ok (.if_icmp .eq 13, 3) := by decide +kernel
theorem dX12_rule_29 : decode cX12_rule 29 = .ok (.iload_n 1, 1) := by decide +kernel
theorem dX12_rule_30 : decode cX12_rule 30 = .ok (.iload_n 2, 1) := by decide +kernel
theorem dX12_rule_31 : decode cX12_rule 31 = .ok (.iadd, 1) := by decide +kernel
theorem dX12_rule_32 : decode cX12_rule 32 = .ok (.aload_n 0, 1) := by decide +kernel
theorem dX12_rule_33 : decode cX12_rule 33 = .ok (.getfield 103, 3) := by decide +kernel
theorem dX12_rule_36 : decode cX12_rule 36 = .ok (.if_icmp .le 5, 3) := by decide +kernel
theorem dX12_rule_39 : decode cX12_rule 39 = .ok (.iconst (-1), 1) := by decide +kernel
theorem dX12_rule_40 : decode cX12_rule 40 = .ok (.ireturn, 1) := by decide +kernel
theorem dX12_rule_41 : decode cX12_rule 41 = .ok (.aload_n 0, 1) := by decide +kernel
theorem dX12_rule_42 : decode cX12_rule 42 = .ok (.iload_n 1, 1) := by decide +kernel
theorem dX12_rule_43 : decode cX12_rule 43 = .ok (.iload_n 2, 1) := by decide +kernel
theorem dX12_rule_44 : decode cX12_rule 44 = .ok (.iadd, 1) := by decide +kernel
theorem dX12_rule_45 : decode cX12_rule 45 = .ok (.invokevirtual 138, 3) := by decide +kernel
theorem dX12_rule_48 : decode cX12_rule 48 = .ok (.aload_n 0, 1) := by decide +kernel
theorem dX12_rule_49 : decode cX12_rule 49 = .ok (.iconst 0, 1) := by decide +kernel
theorem dX12_rule_50 : decode cX12_rule 50 = .ok (.iload_n 1, 1) := by decide +kernel
theorem dX12_rule_51 : decode cX12_rule 51 = .ok (.invokevirtual 141, 3) := by decide +kernel
theorem dX12_rule_54 : decode cX12_rule 54 = .ok (.lstore_n 3, 1) := by decide +kernel
theorem dX12_rule_55 : decode cX12_rule 55 = .ok (.aload_n 0, 1) := by decide +kernel
theorem dX12_rule_56 : decode cX12_rule 56 = .ok (.iload_n 1, 1) := by decide +kernel
theorem dX12_rule_57 : decode cX12_rule 57 = .ok (.iload_n 2, 1) := by decide +kernel
theorem dX12_rule_58 : decode cX12_rule 58 = .ok (.invokevirtual 141, 3) := by decide +kernel
theorem dX12_rule_61 : decode cX12_rule 61 = .ok (.lstore 5, 2) := by decide +kernel
theorem dX12_rule_63 : decode cX12_rule 63 = .ok (.lload_n 3, 1) := by decide +kernel
theorem dX12_rule_64 : decode cX12_rule 64 = .ok (.lconst 0, 1) := by decide +kernel
theorem dX12_rule_65 : decode cX12_rule 65 = .ok (.lcmp, 1) := by decide +kernel
theorem dX12_rule_66 : decode cX12_rule 66 = .ok (.ifCond .eq 17, 3) := by decide +kernel
theorem dX12_rule_69 : decode cX12_rule 69 = .ok (.lload 5, 2) := by decide +kernel
theorem dX12_rule_71 : decode cX12_rule 71 = .ok (.lconst 0, 1) := by decide +kernel
theorem dX12_rule_72 : decode cX12_rule 72 = .ok (.lcmp, 1) := by decide +kernel
theorem dX12_rule_73 : decode cX12_rule 73 = .ok (.ifCond .eq 10, 3) := by decide +kernel
theorem dX12_rule_76 : decode cX12_rule 76 = .ok (.lload_n 3, 1) := by decide +kernel
theorem dX12_rule_77 : decode cX12_rule 77 = .ok (.lload 5, 2) := by decide +kernel
theorem dX12_rule_79 : decode cX12_rule 79 = .ok (.lcmp, 1) := by decide +kernel
theorem dX12_rule_80 : decode cX12_rule 80 = .ok (.ifCond .ne 5, 3) := by decide +kernel
theorem dX12_rule_83 : decode cX12_rule 83 = .ok (.iconst (-1), 1) := by decide +kernel
theorem dX12_rule_84 : decode cX12_rule 84 = .ok (.ireturn, 1) := by decide +kernel
theorem dX12_rule_85 : decode cX12_rule 85 = .ok (.aload_n 0, 1) := by decide +kernel
theorem dX12_rule_86 : decode cX12_rule 86 = .ok (.getfield 67, 3) := by decide +kernel
theorem dX12_rule_89 : decode cX12_rule 89 = .ok (.aload_n 0, 1) := by decide +kernel
theorem dX12_rule_90 : decode cX12_rule 90 = .ok (.getfield 155, 3) := by decide +kernel
theorem dX12_rule_93 : decode cX12_rule 93 = .ok (.lload_n 3, 1) := by decide +kernel
theorem dX12_rule_94 : decode cX12_rule 94 = .ok (.lastore, 1) := by decide +kernel
theorem dX12_rule_95 : decode cX12_rule 95 = .ok (.aload_n 0, 1) := by decide +kernel
theorem dX12_rule_96 : decode cX12_rule 96 = .ok (.getfield 70, 3) := by decide +kernel
theorem dX12_rule_99 : decode cX12_rule 99 = .ok (.aload_n 0, 1) := by decide +kernel
theorem dX12_rule_100 : decode cX12_rule 100 = .ok (.getfield 155, 3) := by decide +kernel
theorem dX12_rule_103 : decode cX12_rule 103 = .ok (.lload 5, 2) := by decide +kernel
theorem dX12_rule_105 : decode cX12_rule 105 = .ok (.lastore, 1) := by decide +kernel
theorem dX12_rule_106 : decode cX12_rule 106 = .ok (.aload_n 0, 1) := by decide +kernel
theorem dX12_rule_107 : decode cX12_rule 107 = .ok (.aload_n 0, 1) := by decide +kernel
theorem dX12_rule_108 : decode cX12_rule 108 = .ok (.getfield 155, 3) := by decide +kernel
theorem dX12_rule_111 : decode cX12_rule 111 = .ok (.iconst 1, 1) := by decide +kernel
theorem dX12_rule_112 : decode cX12_rule 112 = .ok (.iadd, 1) := by decide +kernel
theorem dX12_rule_113 : decode cX12_rule 113 = .ok (.putfield 155, 3) := by decide +kernel
theorem dX12_rule_116 : decode cX12_rule 116 = .ok (.iconst 0, 1) := by decide +kernel
theorem dX12_rule_117 : decode cX12_rule 117 = .ok (.istore 7, 2) := by decide +kernel
theorem dX12_rule_119 : decode cX12_rule 119 = .ok (.iload 7, 2) := by decide +kernel
theorem dX12_rule_121 : decode cX12_rule 121 = .ok (.sipush 7200, 3) := by decide +kernel
theorem dX12_rule_124 : decode cX12_rule 124 = .ok (.if_icmp .ge 17, 3) := by decide +kernel
theorem dX12_rule_127 : decode cX12_rule 127 = .ok (.aload_n 0, 1) := by decide +kernel
theorem dX12_rule_128 : decode cX12_rule 128 = .ok (.getfield 52, 3) := by decide +kernel
theorem dX12_rule_131 : decode cX12_rule 131 = .ok (.iload 7, 2) := by decide +kernel
theorem dX12_rule_133 : decode cX12_rule 133 = .ok (.iconst 0, 1) := by decide +kernel
theorem dX12_rule_134 : decode cX12_rule 134 = .ok (.bastore, 1) := by decide +kernel
theorem dX12_rule_135 : decode cX12_rule 135 = .ok (.iinc 7 1, 3) := by decide +kernel
theorem dX12_rule_138 : decode cX12_rule 138 = .ok (.goto (-19), 3) := by decide +kernel
theorem dX12_rule_141 : decode cX12_rule 141 = .ok (.aload_n 0, 1) := by decide +kernel
theorem dX12_rule_142 : decode cX12_rule 142 = .ok (.getfield 155, 3) := by decide +kernel
theorem dX12_rule_145 : decode cX12_rule 145 = .ok (.iconst 1, 1) := by decide +kernel
theorem dX12_rule_146 : decode cX12_rule 146 = .ok (.isub, 1) := by decide +kernel
theorem dX12_rule_147 : decode cX12_rule 147 = .ok (.ireturn, 1) := by decide +kernel
theorem dX12_changed_0 : decode cX12_changed 0 = .ok (.lload_n 1, 1) := by decide +kernel
theorem dX12_changed_1 : decode cX12_changed 1 = .ok (.invokestatic 158, 3) := by decide +kernel
theorem dX12_changed_4 : decode cX12_changed 4 = .ok (.istore 5, 2) := by decide +kernel
theorem dX12_changed_6 : decode cX12_changed 6 = .ok (.aload_n 0, 1) := by decide +kernel
theorem dX12_changed_7 : decode cX12_changed 7 = .ok (.getfield 67, 3) := by decide +kernel
theorem dX12_changed_10 : decode cX12_changed 10 = .ok (.iload_n 3, 1) := by decide +kernel
theorem dX12_changed_11 : decode cX12_changed 11 = .ok (.laload, 1) := by decide +kernel
theorem dX12_changed_12 : decode cX12_changed 12 = .ok (.invokestatic 158, 3) := by decide +kernel
theorem dX12_changed_15 : decode cX12_changed 15 = .ok (.istore 6, 2) := by decide +kernel
theorem dX12_changed_17 : decode cX12_changed 17 = .ok (.aload_n 0, 1) := by decide +kernel
theorem dX12_changed_18 : decode cX12_changed 18 = .ok (.getfield 70, 3) := by decide +kernel
theorem dX12_changed_21 : decode cX12_changed 21 = .ok (.iload_n 3, 1) := by decide +kernel
theorem dX12_changed_22 : decode cX12_changed 22 = .ok (.laload, 1) := by decide +kernel
theorem dX12_changed_23 : decode cX12_changed 23 = .ok (.invokestatic 158, 3) := by decide +kernel
theorem dX12_changed_26 : decode cX12_changed 26 = .ok (.istore 7, 2) := by decide +kernel
theorem dX12_changed_28 : decode cX12_changed 28 = .ok (.iload 4, 2) := by decide +kernel
theorem dX12_changed_30 : decode cX12_changed 30 = .ok (.iload 6, 2) := by decide +kernel
theorem dX12_changed_32 : decode cX12_changed 32 = .ok (.iadd, 1) := by decide +kernel
theorem dX12_changed_33 : decode cX12_changed 33 = .ok (.iload 5, 2) := by decide +kernel
theorem dX12_changed_35 : decode cX12_changed 35 = .ok (.if_icmp .gt 16, 3) := by decide +kernel
theorem dX12_changed_38 : decode cX12_changed 38 = .ok (.iload 5, 2) := by decide +kernel
theorem dX12_changed_40 : decode cX12_changed 40 = .ok (.iload 6, 2) := by decide +kernel
theorem dX12_changed_42 : decode cX12_changed 42 = .ok (.isub, 1) := by decide +kernel
theorem dX12_changed_43 : decode cX12_changed 43 = .ok (.iload 7, 2) := by decide +kernel
theorem dX12_changed_45 : decode cX12_changed 45 = .ok (.iadd, 1) := by decide +kernel
theorem dX12_changed_46 : decode cX12_changed 46 = .ok (.bipush 8, 2) := by decide +kernel
theorem dX12_changed_48 : decode cX12_changed 48 = .ok (.if_icmp .le 5, 3) := by decide +kernel
theorem dX12_changed_51 : decode cX12_changed 51 = .ok (.lconst 0, 1) := by decide +kernel
theorem dX12_changed_52 : decode cX12_changed 52 = .ok (.lreturn, 1) := by decide +kernel
theorem dX12_changed_53 : decode cX12_changed 53 = .ok (.lconst 1, 1) := by decide +kernel
theorem dX12_changed_54 : decode cX12_changed 54 = .ok (.bipush 8, 2) := by decide +kernel
theorem dX12_changed_56 : decode cX12_changed 56 = .ok (.iload 6, 2) := by decide +kernel
theorem dX12_changed_58 : decode cX12_changed 58 = .ok (.imul, 1) := by decide +kernel
theorem dX12_changed_59 : decode cX12_changed 59 = .ok (.lshl, 1) := by decide +kernel
theorem dX12_changed_60 : decode cX12_changed 60 = .ok (.lconst 1, 1) := by decide +kernel
theorem dX12_changed_61 : decode cX12_changed 61 = .ok (.lsub, 1) := by decide +kernel
theorem dX12_changed_62 : decode cX12_changed 62 = .ok (.lstore 8, 2) := by decide +kernel
theorem dX12_changed_64 : decode cX12_changed 64 = .ok (.lload_n 1, 1) := by decide +kernel
theorem dX12_changed_65 : decode cX12_changed 65 = .ok (.bipush 8, 2) := by decide +kernel
theorem dX12_changed_67 : decode cX12_changed 67 = .ok (.iload 4, 2) := by decide +kernel
theorem dX12_changed_69 : decode cX12_changed 69 = .ok (.imul, 1) := by decide +kernel
theorem dX12_changed_70 : decode cX12_changed 70 = .ok (.lushr, 1) := by decide +kernel
theorem dX12_changed_71 : decode cX12_changed 71 = .ok (.lload 8, 2) := by decide +kernel
theorem dX12_changed_73 : decode cX12_changed 73 = .ok (.land, 1) := by decide +kernel
theorem dX12_changed_74 : decode cX12_changed 74 = .ok (.aload_n 0, 1) := by decide +kernel
theorem dX12_changed_75 : decode cX12_changed 75 = .ok (.getfield 67, 3) := by decide +kernel
theorem dX12_changed_78 : decode cX12_changed 78 = .ok (.iload_n 3, 1) := by decide +kernel
theorem dX12_changed_79 : decode cX12_changed 79 = .ok (.laload, 1) := by decide +kernel
theorem dX12_changed_80 : decode cX12_changed 80 = .ok (.lcmp, 1) := by decide +kernel
theorem dX12_changed_81 : decode cX12_changed 81 = .ok (.ifCond .eq 5, 3) := by decide +kernel
theorem dX12_changed_84 : decode cX12_changed 84 = .ok (.lconst 0, 1) := by decide +kernel
theorem dX12_changed_85 : decode cX12_changed 85 = .ok (.lreturn, 1) := by decide +kernel
theorem dX12_changed_86 : decode cX12_changed 86 = .ok (.lload_n 1, 1) := by decide +kernel
theorem dX12_changed_87 : decode cX12_changed 87 = .ok (.lconst 1, 1) := by decide +kernel
theorem dX12_changed_88 : decode cX12_changed 88 = .ok (.bipush 8, 2) := by decide +kernel
theorem dX12_changed_90 : decode cX12_changed 90 = .ok (.iload 4, 2) := by decide +kernel
theorem dX12_changed_92 : decode cX12_changed 92 = .ok (.imul, 1) := by decide +kernel
theorem dX12_changed_93 : decode cX12_changed 93 = .ok (.lshl, 1) := by decide +kernel
theorem dX12_changed_94 : decode cX12_changed 94 = .ok (.lconst 1, 1) := by decide +kernel
theorem dX12_changed_95 : decode cX12_changed 95 = .ok (.lsub, 1) := by decide +kernel
theorem dX12_changed_96 : decode cX12_changed 96 = .ok (.land, 1) := by decide +kernel
theorem dX12_changed_97 : decode cX12_changed 97 = .ok (.lstore 10, 2) := by decide +kernel
theorem dX12_changed_99 : decode cX12_changed 99 = .ok (.iload 4, 2) := by decide +kernel
theorem dX12_changed_101 : decode cX12_changed 101 = .ok (.iload 6, 2) := by decide +kernel
theorem dX12_changed_103 : decode cX12_changed 103 = .ok (.iadd, 1) := by decide +kernel
theorem dX12_changed_104 : decode cX12_changed 104 = .ok (.bipush 8, 2) := by decide +kernel
theorem dX12_changed_106 : decode cX12_changed 106 = .ok (.if_icmp .ne 7, 3) := by decide +kernel
theorem dX12_changed_109 : decode cX12_changed 109 = .ok (.lconst 0, 1) := by decide +kernel
theorem dX12_changed_110 : decode cX12_changed 110 = .ok (.goto 13, 3) := by decide +kernel
theorem dX12_changed_113 : decode cX12_changed 113 = .ok (.lload_n 1, 1) := by decide +kernel
theorem dX12_changed_114 : decode cX12_changed 114 = .ok (.bipush 8, 2) := by decide +kernel
theorem dX12_changed_116 : decode cX12_changed 116 = .ok (.iload 4, 2) := by decide +kernel
theorem dX12_changed_118 : decode cX12_changed 118 = .ok (.iload 6, 2) := by decide +kernel
theorem dX12_changed_120 : decode cX12_changed 120 = .ok (.iadd, 1) := by decide +kernel
theorem dX12_changed_121 : decode cX12_changed 121 = .ok (.imul, 1) := by decide +kernel
theorem dX12_changed_122 : decode cX12_changed 122 = .ok (.lushr, 1) := by decide +kernel
theorem dX12_changed_123 : decode cX12_changed 123 = .ok (.lstore 12, 2) := by decide +kernel
theorem dX12_changed_125 : decode cX12_changed 125 = .ok (.iload 4, 2) := by decide +kernel
theorem dX12_changed_127 : decode cX12_changed 127 = .ok (.iload 7, 2) := by decide +kernel
theorem dX12_changed_129 : decode cX12_changed 129 = .ok (.iadd, 1) := by decide +kernel
theorem dX12_changed_130 : decode cX12_changed 130 = .ok (.bipush 8, 2) := by decide +kernel
theorem dX12_changed_132 : decode cX12_changed 132 = .ok (.if_icmp .ne 7, 3) := by decide +kernel
theorem dX12_changed_135 : decode cX12_changed 135 = .ok (.lconst 0, 1) := by decide +kernel
theorem dX12_changed_136 : decode cX12_changed 136 = .ok (.goto 14, 3) := by decide +kernel
theorem dX12_changed_139 : decode cX12_changed 139 = .ok (.lload 12, 2) := by decide +kernel
theorem dX12_changed_141 : decode cX12_changed 141 = .ok (.bipush 8, 2) := by decide +kernel
theorem dX12_changed_143 : decode cX12_changed 143 = .ok (.iload 4, 2) := by decide +kernel
theorem dX12_changed_145 : decode cX12_changed 145 = .ok (.iload 7, 2) := by decide +kernel
theorem dX12_changed_147 : decode cX12_changed 147 = .ok (.iadd, 1) := by decide +kernel
theorem dX12_changed_148 : decode cX12_changed 148 = .ok (.imul, 1) := by decide +kernel
theorem dX12_changed_149 : decode cX12_changed 149 = .ok (.lshl, 1) := by decide +kernel
theorem dX12_changed_150 : decode cX12_changed 150 = .ok (.lstore 14, 2) := by decide +kernel
theorem dX12_changed_152 : decode cX12_changed 152 = .ok (.lload 14, 2) := by decide +kernel
theorem dX12_changed_154 : decode cX12_changed 154 = .ok (.aload_n 0, 1) := by decide +kernel
theorem dX12_changed_155 : decode cX12_changed 155 = .ok (.getfield 70, 3) := by decide +kernel
theorem dX12_changed_158 : decode cX12_changed 158 = .ok (.iload_n 3, 1) := by decide +kernel
theorem dX12_changed_159 : decode cX12_changed 159 = .ok (.laload, 1) := by decide +kernel
theorem dX12_changed_160 : decode cX12_changed 160 = .ok (.bipush 8, 2) := by decide +kernel
theorem dX12_changed_162 : decode cX12_changed 162 = .ok (.iload 4, 2) := by decide +kernel
theorem dX12_changed_164 : decode cX12_changed 164 = .ok (.imul, 1) := by decide +kernel
theorem dX12_changed_165 : decode cX12_changed 165 = .ok (.lshl, 1) := by decide +kernel
theorem dX12_changed_166 : decode cX12_changed 166 = .ok (.lor, 1) := by decide +kernel
theorem dX12_changed_167 : decode cX12_changed 167 = .ok (.lload 10, 2) := by decide +kernel
theorem dX12_changed_169 : decode cX12_changed 169 = .ok (.lor, 1) := by decide +kernel
theorem dX12_changed_170 : decode cX12_changed 170 = .ok (.lreturn, 1) := by decide +kernel
theorem dX12_leadsByOne_0 : decode cX12_leadsByOne 0 = .ok (.iconst 0, 1) := by decide +kernel
theorem dX12_leadsByOne_1 : decode cX12_leadsByOne 1 = .ok (.istore 5, 2) := by decide +kernel
theorem dX12_leadsByOne_3 : decode cX12_leadsByOne 3 = .ok (.iload 5, 2) := by decide +kernel
theorem dX12_leadsByOne_5 : decode cX12_leadsByOne 5 = .ok (.aload_n 0, 1) := by decide +kernel
theorem dX12_leadsByOne_6 : decode cX12_leadsByOne 6 = .ok (.getfield 155, 3) := by decide +kernel
theorem dX12_leadsByOne_9 : decode cX12_leadsByOne 9 = .ok (.if_icmp .ge 41, 3) := by decide +kernel
theorem dX12_leadsByOne_12 : decode cX12_leadsByOne 12 = .ok (.iconst 0, 1) := by decide +kernel
theorem dX12_leadsByOne_13 : decode cX12_leadsByOne 13 = .ok (.istore 6, 2) := by decide +kernel
theorem dX12_leadsByOne_15 : decode cX12_leadsByOne 15 = .ok (.iload 6, 2) := by decide +kernel
theorem dX12_leadsByOne_17 : decode cX12_leadsByOne 17 = .ok (.bipush 8, 2) := by decide +kernel
theorem dX12_leadsByOne_19 : decode cX12_leadsByOne 19 = .ok (.if_icmp .ge 25, 3) := by decide +kernel
theorem dX12_leadsByOne_22 : decode cX12_leadsByOne 22 = .ok (.aload_n 0, 1) := by decide +kernel
theorem dX12_leadsByOne_23 : decode cX12_leadsByOne 23 = .ok (.lload_n 1, 1) := by decide +kernel
theorem dX12_leadsByOne_24 : decode cX12_leadsByOne 24 = .ok (.iload 5, 2) := by decide +kernel
theorem dX12_leadsByOne_26 : decode cX12_leadsByOne 26 = .ok (.iload 6, 2) := by decide +kernel
theorem dX12_leadsByOne_28 : decode cX12_leadsByOne 28 = .ok (.invokevirtual 162, 3) := by decide +kernel
theorem dX12_leadsByOne_31 : decode cX12_leadsByOne 31 = .ok (.lload_n 3, 1) := by decide +kernel
theorem dX12_leadsByOne_32 : decode cX12_leadsByOne 32 = .ok (.lcmp, 1) := by decide +kernel
theorem dX12_leadsByOne_33 : decode cX12_leadsByOne 33 = .ok (.ifCond .ne 5, 3) := by decide +kernel
theorem dX12_leadsByOne_36 : decode cX12_leadsByOne 36 = .ok (.iconst 1, 1) := by decide +kernel
theorem dX12_leadsByOne_37 : decode cX12_leadsByOne 37 = .ok (.ireturn, 1) := by decide +kernel
theorem dX12_leadsByOne_38 : decode cX12_leadsByOne 38 = .ok (.iinc 6 1, 3) := by decide +kernel
theorem dX12_leadsByOne_41 : decode cX12_leadsByOne 41 = .ok (.goto (-26), 3) := by decide +kernel
theorem dX12_leadsByOne_44 : decode cX12_leadsByOne 44 = .ok (.iinc 5 1, 3) := by decide +kernel
theorem dX12_leadsByOne_47 : decode cX12_leadsByOne 47 = .ok (.goto (-44), 3) := by decide +kernel
theorem dX12_leadsByOne_50 : decode cX12_leadsByOne 50 = .ok (.iconst 0, 1) := by decide +kernel
theorem dX12_leadsByOne_51 : decode cX12_leadsByOne 51 = .ok (.ireturn, 1) := by decide +kernel
theorem dX12_leads_0 : decode cX12_leads 0 = .ok (.lload_n 1, 1) := by decide +kernel
theorem dX12_leads_1 : decode cX12_leads 1 = .ok (.lload_n 3, 1) := by decide +kernel
theorem dX12_leads_2 : decode cX12_leads 2 = .ok (.lcmp, 1) := by decide +kernel
theorem dX12_leads_3 : decode cX12_leads 3 = .ok (.ifCond .eq 12, 3) := by decide +kernel
theorem dX12_leads_6 : decode cX12_leads 6 = .ok (.aload_n 0, 1) := by decide +kernel
theorem dX12_leads_7 : decode cX12_leads 7 = .ok (.lload_n 1, 1) := by decide +kernel
theorem dX12_leads_8 : decode cX12_leads 8 = .ok (.lload_n 3, 1) := by decide +kernel
theorem dX12_leads_9 : decode cX12_leads 9 = .ok (.invokevirtual 166, 3) := by decide +kernel
theorem dX12_leads_12 : decode cX12_leads 12 = .ok (.ifCond .eq 5, 3) := by decide +kernel
theorem dX12_leads_15 : decode cX12_leads 15 = .ok (.iconst 1, 1) := by decide +kernel
theorem dX12_leads_16 : decode cX12_leads 16 = .ok (.ireturn, 1) := by decide +kernel
theorem dX12_leads_17 : decode cX12_leads 17 = .ok (.iconst 0, 1) := by decide +kernel
theorem dX12_leads_18 : decode cX12_leads 18 = .ok (.istore 5, 2) := by decide +kernel
theorem dX12_leads_20 : decode cX12_leads 20 = .ok (.iload 5, 2) := by decide +kernel
theorem dX12_leads_22 : decode cX12_leads 22 = .ok (.aload_n 0, 1) := by decide +kernel
theorem dX12_leads_23 : decode cX12_leads 23 = .ok (.getfield 155, 3) := by decide +kernel
theorem dX12_leads_26 : decode cX12_leads 26 = .ok (.if_icmp .ge 55, 3) := by decide +kernel
theorem dX12_leads_29 : decode cX12_leads 29 = .ok (.iconst 0, 1) := by decide +kernel
theorem dX12_leads_30 : decode cX12_leads 30 = .ok (.istore 6, 2) := by decide +kernel
theorem dX12_leads_32 : decode cX12_leads 32 = .ok (.iload 6, 2) := by decide +kernel
theorem dX12_leads_34 : decode cX12_leads 34 = .ok (.bipush 8, 2) := by decide +kernel
theorem dX12_leads_36 : decode cX12_leads 36 = .ok (.if_icmp .ge 39, 3) := by decide +kernel
theorem dX12_leads_39 : decode cX12_leads 39 = .ok (.aload_n 0, 1) := by decide +kernel
theorem dX12_leads_40 : decode cX12_leads 40 = .ok (.lload_n 1, 1) := by decide +kernel
theorem dX12_leads_41 : decode cX12_leads 41 = .ok (.iload 5, 2) := by decide +kernel
theorem dX12_leads_43 : decode cX12_leads 43 = .ok (.iload 6, 2) := by decide +kernel
theorem dX12_leads_45 : decode cX12_leads 45 = .ok (.invokevirtual 162, 3) := by decide +kernel
theorem dX12_leads_48 : decode cX12_leads 48 = .ok (.lstore 7, 2) := by decide +kernel
theorem dX12_leads_50 : decode cX12_leads 50 = .ok (.lload 7, 2) := by decide +kernel
theorem dX12_leads_52 : decode cX12_leads 52 = .ok (.lconst 0, 1) := by decide +kernel
theorem dX12_leads_53 : decode cX12_leads 53 = .ok (.lcmp, 1) := by decide +kernel
theorem dX12_leads_54 : decode cX12_leads 54 = .ok (.ifCond .eq 15, 3) := by decide +kernel
theorem dX12_leads_57 : decode cX12_leads 57 = .ok (.aload_n 0, 1) := by decide +kernel
theorem dX12_leads_58 : decode cX12_leads 58 = .ok (.lload 7, 2) := by decide +kernel
theorem dX12_leads_60 : decode cX12_leads 60 = .ok (.lload_n 3, 1) := by decide +kernel
theorem dX12_leads_61 : decode cX12_leads 61 = .ok (.invokevirtual 166, 3) := by decide +kernel
theorem dX12_leads_64 : decode cX12_leads 64 = .ok (.ifCond .eq 5, 3) := by decide +kernel
theorem dX12_leads_67 : decode cX12_leads 67 = .ok (.iconst 1, 1) := by decide +kernel
theorem dX12_leads_68 : decode cX12_leads 68 = .ok (.ireturn, 1) := by decide +kernel
theorem dX12_leads_69 : decode cX12_leads 69 = .ok (.iinc 6 1, 3) := by decide +kernel
theorem dX12_leads_72 : decode cX12_leads 72 = .ok (.goto (-40), 3) := by decide +kernel
theorem dX12_leads_75 : decode cX12_leads 75 = .ok (.iinc 5 1, 3) := by decide +kernel
theorem dX12_leads_78 : decode cX12_leads 78 = .ok (.goto (-58), 3) := by decide +kernel
theorem dX12_leads_81 : decode cX12_leads 81 = .ok (.iconst 0, 1) := by decide +kernel
theorem dX12_leads_82 : decode cX12_leads 82 = .ok (.ireturn, 1) := by decide +kernel
theorem dX12_isLed_0 : decode cX12_isLed 0 = .ok (.bipush 60, 2) := by decide +kernel
theorem dX12_isLed_2 : decode cX12_isLed 2 = .ok (.iload_n 1, 1) := by decide +kernel
theorem dX12_isLed_3 : decode cX12_isLed 3 = .ok (.imul, 1) := by decide +kernel
theorem dX12_isLed_4 : decode cX12_isLed 4 = .ok (.iload_n 2, 1) := by decide +kernel
theorem dX12_isLed_5 : decode cX12_isLed 5 = .ok (.iadd, 1) := by decide +kernel
theorem dX12_isLed_6 : decode cX12_isLed 6 = .ok (.istore_n 3, 1) := by decide +kernel
theorem dX12_isLed_7 : decode cX12_isLed 7 = .ok (.aload_n 0, 1) := by decide +kernel
theorem dX12_isLed_8 : decode cX12_isLed 8 = .ok (.getfield 52, 3) := by decide +kernel
theorem dX12_isLed_11 : decode cX12_isLed 11 = .ok (.iload_n 3, 1) := by decide +kernel
theorem dX12_isLed_12 : decode cX12_isLed 12 = .ok (.baload, 1) := by decide +kernel
theorem dX12_isLed_13 : decode cX12_isLed 13 = .ok (.ifCond .ne 34, 3) := by decide +kernel
theorem dX12_isLed_16 : decode cX12_isLed 16 = .ok (.aload_n 0, 1) := by decide +kernel
theorem dX12_isLed_17 : decode cX12_isLed 17 = .ok (.getfield 52, 3) := by decide +kernel
theorem dX12_isLed_20 : decode cX12_isLed 20 = .ok (.iload_n 3, 1) := by decide +kernel
theorem dX12_isLed_21 : decode cX12_isLed 21 = .ok (.aload_n 0, 1) := by decide +kernel
theorem dX12_isLed_22 : decode cX12_isLed 22 = .ok (.aload_n 0, 1) := by decide +kernel
theorem dX12_isLed_23 : decode cX12_isLed 23 = .ok (.getfield 64, 3) := by decide +kernel
theorem dX12_isLed_26 : decode cX12_isLed 26 = .ok (.iload_n 2, 1) := by decide +kernel
theorem dX12_isLed_27 : decode cX12_isLed 27 = .ok (.laload, 1) := by decide +kernel
theorem dX12_isLed_28 : decode cX12_isLed 28 = .ok (.aload_n 0, 1) := by decide +kernel
theorem dX12_isLed_29 : decode cX12_isLed 29 = .ok (.getfield 48, 3) := by decide +kernel
theorem dX12_isLed_32 : decode cX12_isLed 32 = .ok (.iload_n 1, 1) := by decide +kernel
theorem dX12_isLed_33 : decode cX12_isLed 33 = .ok (.laload, 1) := by decide +kernel
theorem dX12_isLed_34 : decode cX12_isLed 34 = .ok (.invokevirtual 170, 3) := by decide +kernel
theorem dX12_isLed_37 : decode cX12_isLed 37 = .ok (.ifCond .eq 7, 3) := by decide +kernel
theorem dX12_isLed_40 : decode cX12_isLed 40 = .ok (.iconst 1, 1) := by decide +kernel
theorem dX12_isLed_41 : decode cX12_isLed 41 = .ok (.goto 4, 3) := by decide +kernel
theorem dX12_isLed_44 : decode cX12_isLed 44 = .ok (.iconst 2, 1) := by decide +kernel
theorem dX12_isLed_45 : decode cX12_isLed 45 = .ok (.i2b, 1) := by decide +kernel
theorem dX12_isLed_46 : decode cX12_isLed 46 = .ok (.bastore, 1) := by decide +kernel
theorem dX12_isLed_47 : decode cX12_isLed 47 = .ok (.aload_n 0, 1) := by decide +kernel
theorem dX12_isLed_48 : decode cX12_isLed 48 = .ok (.getfield 52, 3) := by decide +kernel
theorem dX12_isLed_51 : decode cX12_isLed 51 = .ok (.iload_n 3, 1) := by decide +kernel
theorem dX12_isLed_52 : decode cX12_isLed 52 = .ok (.baload, 1) := by decide +kernel
theorem dX12_isLed_53 : decode cX12_isLed 53 = .ok (.iconst 1, 1) := by decide +kernel
theorem dX12_isLed_54 : decode cX12_isLed 54 = .ok (.if_icmp .ne 7, 3) := by decide +kernel
theorem dX12_isLed_57 : decode cX12_isLed 57 = .ok (.iconst 1, 1) := by decide +kernel
theorem dX12_isLed_58 : decode cX12_isLed 58 = .ok (.goto 4, 3) := by decide +kernel
theorem dX12_isLed_61 : decode cX12_isLed 61 = .ok (.iconst 0, 1) := by decide +kernel
theorem dX12_isLed_62 : decode cX12_isLed 62 = .ok (.ireturn, 1) := by decide +kernel
theorem dX12_fitting_0 : decode cX12_fitting 0 = .ok (.iconst 0, 1) := by decide +kernel
theorem dX12_fitting_1 : decode cX12_fitting 1 = .ok (.istore_n 2, 1) := by decide +kernel
theorem dX12_fitting_2 : decode cX12_fitting 2 = .ok (.iconst 0, 1) := by decide +kernel
theorem dX12_fitting_3 : decode cX12_fitting 3 = .ok (.istore_n 3, 1) := by decide +kernel
theorem dX12_fitting_4 : decode cX12_fitting 4 = .ok (.iload_n 3, 1) := by decide +kernel
theorem dX12_fitting_5 : decode cX12_fitting 5 = .ok (.aload_n 0, 1) := by decide +kernel
theorem dX12_fitting_6 : decode cX12_fitting 6 = .ok (.getfield 145, 3) := by decide +kernel
theorem dX12_fitting_9 : decode cX12_fitting 9 = .ok (.if_icmp .ge 26, 3) := by decide +kernel
theorem dX12_fitting_12 : decode cX12_fitting 12 = .ok (.iload_n 2, 1) := by decide +kernel
theorem dX12_fitting_13 : decode cX12_fitting 13 = .ok (.aload_n 0, 1) := by decide +kernel
theorem dX12_fitting_14 : decode cX12_fitting 14 = .ok (.iload_n 1, 1) := by decide +kernel
theorem dX12_fitting_15 : decode cX12_fitting 15 = .ok (.iload_n 3, 1) := by decide +kernel
theorem dX12_fitting_16 : decode cX12_fitting 16 = .ok (.invokevirtual 173, 3) := by decide +kernel
theorem dX12_fitting_19 : decode cX12_fitting 19 = .ok (.ifCond .eq 7, 3) := by decide +kernel
theorem dX12_fitting_22 : decode cX12_fitting 22 = .ok (.iconst 1, 1) := by decide +kernel
theorem dX12_fitting_23 : decode cX12_fitting 23 = .ok (.goto 4, 3) := by decide +kernel
theorem dX12_fitting_26 : decode cX12_fitting 26 = .ok (.iconst 0, 1) := by decide +kernel
theorem dX12_fitting_27 : decode cX12_fitting 27 = .ok (.iadd, 1) := by decide +kernel
theorem dX12_fitting_28 : decode cX12_fitting 28 = .ok (.istore_n 2, 1) := by decide +kernel
theorem dX12_fitting_29 : decode cX12_fitting 29 = .ok (.iinc 3 1, 3) := by decide +kernel
theorem dX12_fitting_32 : decode cX12_fitting 32 = .ok (.goto (-28), 3) := by decide +kernel
theorem dX12_fitting_35 : decode cX12_fitting 35 = .ok (.iload_n 2, 1) := by decide +kernel
theorem dX12_fitting_36 : decode cX12_fitting 36 = .ok (.ireturn, 1) := by decide +kernel
theorem dX12_isDoubted_0 : decode cX12_isDoubted 0 = .ok (.aload_n 0, 1) := by decide +kernel
theorem dX12_isDoubted_1 : decode cX12_isDoubted 1 = .ok (.getfield 42, 3) := by decide +kernel
theorem dX12_isDoubted_4 : decode cX12_isDoubted 4 = .ok (.iload_n 1, 1) := by decide +kernel
theorem dX12_isDoubted_5 : decode cX12_isDoubted 5 = .ok (.iaload, 1) := by decide +kernel
theorem dX12_isDoubted_6 : decode cX12_isDoubted 6 = .ok (.iconst (-1), 1) := by decide +kernel
theorem dX12_isDoubted_7 : decode cX12_isDoubted 7 = .ok (.if_icmp .ne 16, 3) := by decide +kernel
theorem dX12_isDoubted_10 : decode cX12_isDoubted 10 = .ok (.aload_n 0, 1) := by decide +kernel
theorem dX12_isDoubted_11 : decode cX12_isDoubted 11 = .ok (.iload_n 1, 1) := by decide +kernel
theorem dX12_isDoubted_12 : decode cX12_isDoubted 12 = .ok (.invokevirtual 176, 3) := by decide +kernel
theorem dX12_isDoubted_15 : decode cX12_isDoubted 15 = .ok (.iconst 1, 1) := by decide +kernel
theorem dX12_isDoubted_16 : decode cX12_isDoubted 16 = .ok (.if_icmp .le 7, 3) := by decide +kernel
theorem dX12_isDoubted_19 : decode cX12_isDoubted 19 = .ok (.iconst 1, 1) := by decide +kernel
theorem dX12_isDoubted_20 : decode cX12_isDoubted 20 = .ok (.goto 4, 3) := by decide +kernel
theorem dX12_isDoubted_23 : decode cX12_isDoubted 23 = .ok (.iconst 0, 1) := by decide +kernel
theorem dX12_isDoubted_24 : decode cX12_isDoubted 24 = .ok (.ireturn, 1) := by decide +kernel
theorem dX12_isFitting_0 : decode cX12_isFitting 0 = .ok (.aload_n 0, 1) := by decide +kernel
theorem dX12_isFitting_1 : decode cX12_isFitting 1 = .ok (.getfield 39, 3) := by decide +kernel
theorem dX12_isFitting_4 : decode cX12_isFitting 4 = .ok (.iload_n 1, 1) := by decide +kernel
theorem dX12_isFitting_5 : decode cX12_isFitting 5 = .ok (.iaload, 1) := by decide +kernel
theorem dX12_isFitting_6 : decode cX12_isFitting 6 = .ok (.istore_n 3, 1) := by decide +kernel
theorem dX12_isFitting_7 : decode cX12_isFitting 7 = .ok (.iconst 5, 1) := by decide +kernel
theorem dX12_isFitting_8 : decode cX12_isFitting 8 = .ok (.iload_n 2, 1) := by decide +kernel
theorem dX12_isFitting_9 : decode cX12_isFitting 9 = .ok (.imul, 1) := by decide +kernel
theorem dX12_isFitting_10 : decode cX12_isFitting 10 = .ok (.istore 4, 2) := by decide +kernel
theorem dX12_isFitting_12 : decode cX12_isFitting 12 = .ok (.iload 4, 2) := by decide +kernel
theorem dX12_isFitting_14 : decode cX12_isFitting 14 = .ok (.iconst 5, 1) := by decide +kernel
theorem dX12_isFitting_15 : decode cX12_isFitting 15 = .ok (.iload_n 2, 1) := by decide +kernel
theorem dX12_isFitting_16 : decode cX12_isFitting 16 = .ok (.imul, 1) := by decide +kernel
theorem dX12_isFitting_17 : decode cX12_isFitting 17 = .ok (.aload_n 0, 1) := by decide +kernel
theorem dX12_isFitting_18 : decode cX12_isFitting 18 = .ok (.getfield 55, 3) := by decide +kernel
theorem dX12_isFitting_21 : decode cX12_isFitting 21 = .ok (.iload_n 2, 1) := by decide +kernel
theorem dX12_isFitting_22 : decode cX12_isFitting 22 = .ok (.iaload, 1) := by decide +kernel
theorem dX12_isFitting_23 : decode cX12_isFitting 23 = .ok (.iadd, 1) := by decide +kernel
theorem dX12_isFitting_24 : decode cX12_isFitting 24 = .ok (.if_icmp .ge 53, 3) := by decide +kernel
theorem dX12_isFitting_27 : decode cX12_isFitting 27 = .ok (.aload_n 0, 1) := by decide +kernel
theorem dX12_isFitting_28 : decode cX12_isFitting 28 = .ok (.getfield 58, 3) := by decide +kernel
theorem dX12_isFitting_31 : decode cX12_isFitting 31 = .ok (.iload 4, 2) := by decide +kernel
theorem dX12_isFitting_33 : decode cX12_isFitting 33 = .ok (.iaload, 1) := by decide +kernel
theorem dX12_isFitting_34 : decode cX12_isFitting 34 = .ok (.aload_n 0, 1) := by decide +kernel
theorem dX12_isFitting_35 : decode cX12_isFitting 35 = .ok (.getfield 26, 3) := by decide +kernel
theorem dX12_isFitting_38 : decode cX12_isFitting 38 = .ok (.iload_n 3, 1) := by decide +kernel
theorem dX12_isFitting_39 : decode cX12_isFitting 39 = .ok (.iaload, 1) := by decide +kernel
theorem dX12_isFitting_40 : decode cX12_isFitting 40 = .ok (.if_icmp .gt 31, 3) := by decide +kernel
theorem dX12_isFitting_43 : decode cX12_isFitting 43 = .ok (.aload_n 0, 1) := by decide +kernel
theorem dX12_isFitting_44 : decode cX12_isFitting 44 = .ok (.getfield 61, 3) := by decide +kernel
theorem dX12_isFitting_47 : decode cX12_isFitting 47 = .ok (.iload 4, 2) := by decide +kernel
theorem dX12_isFitting_49 : decode cX12_isFitting 49 = .ok (.iaload, 1) := by decide +kernel
theorem dX12_isFitting_50 : decode cX12_isFitting 50 = .ok (.aload_n 0, 1) := by decide +kernel
theorem dX12_isFitting_51 : decode cX12_isFitting 51 = .ok (.getfield 23, 3) := by decide +kernel
theorem dX12_isFitting_54 : decode cX12_isFitting 54 = .ok (.iload_n 3, 1) := by decide +kernel
theorem dX12_isFitting_55 : decode cX12_isFitting 55 = .ok (.iaload, 1) := by decide +kernel
theorem dX12_isFitting_56 : decode cX12_isFitting 56 = .ok (.if_icmp .lt 15, 3) := by decide +kernel
theorem dX12_isFitting_59 : decode cX12_isFitting 59 = .ok (.aload_n 0, 1) := by decide +kernel
theorem dX12_isFitting_60 : decode cX12_isFitting 60 = .ok (.iload_n 1, 1) := by decide +kernel
theorem dX12_isFitting_61 : decode cX12_isFitting 61 = .ok (.iload 4, 2) := by decide +kernel
theorem dX12_isFitting_63 : decode cX12_isFitting 63 = .ok (.invokevirtual 180, 3) := by decide +kernel
theorem dX12_isFitting_66 : decode cX12_isFitting 66 = .ok (.ifCond .eq 5, 3) := by decide +kernel
theorem dX12_isFitting_69 : decode cX12_isFitting 69 = .ok (.iconst 1, 1) := by decide +kernel
theorem dX12_isFitting_70 : decode cX12_isFitting 70 = .ok (.ireturn, 1) := by decide +kernel
theorem dX12_isFitting_71 : decode cX12_isFitting 71 = .ok (.iinc 4 1, 3) := by decide +kernel
theorem dX12_isFitting_74 : decode cX12_isFitting 74 = .ok (.goto (-62), 3) := by decide +kernel
theorem dX12_isFitting_77 : decode cX12_isFitting 77 = .ok (.iconst 0, 1) := by decide +kernel
theorem dX12_isFitting_78 : decode cX12_isFitting 78 = .ok (.ireturn, 1) := by decide +kernel
theorem dX12_isSlip_0 : decode cX12_isSlip 0 = .ok (.iload_n 1, 1) := by decide +kernel
theorem dX12_isSlip_1 : decode cX12_isSlip 1 = .ok (.ifCond .lt 15, 3) := by decide +kernel
theorem dX12_isSlip_4 : decode cX12_isSlip 4 = .ok (.iload_n 1, 1) := by decide +kernel
theorem dX12_isSlip_5 : decode cX12_isSlip 5 = .ok (.aload_n 0, 1) := by decide +kernel
theorem dX12_isSlip_6 : decode cX12_isSlip 6 = .ok (.getfield 132, 3) := by decide +kernel
theorem dX12_isSlip_9 : decode cX12_isSlip 9 = .ok (.if_icmp .ge 7, 3) := by decide +kernel
theorem dX12_isSlip_12 : decode cX12_isSlip 12 = .ok (.iconst 1, 1) := by decide +kernel
theorem dX12_isSlip_13 : decode cX12_isSlip 13 = .ok (.goto 4, 3) := by decide +kernel
theorem dX12_isSlip_16 : decode cX12_isSlip 16 = .ok (.iconst 0, 1) := by decide +kernel
theorem dX12_isSlip_17 : decode cX12_isSlip 17 = .ok (.ireturn, 1) := by decide +kernel
theorem dX12_fits_0 : decode cX12_fits 0 = .ok (.aload_n 0, 1) := by decide +kernel
theorem dX12_fits_1 : decode cX12_fits 1 = .ok (.iload_n 1, 1) := by decide +kernel
theorem dX12_fits_2 : decode cX12_fits 2 = .ok (.invokevirtual 183, 3) := by decide +kernel
theorem dX12_fits_5 : decode cX12_fits 5 = .ok (.ifCond .eq 11, 3) := by decide +kernel
theorem dX12_fits_8 : decode cX12_fits 8 = .ok (.aload_n 0, 1) := by decide +kernel
theorem dX12_fits_9 : decode cX12_fits 9 = .ok (.iload_n 2, 1) := by decide +kernel
theorem dX12_fits_10 : decode cX12_fits 10 = .ok (.invokevirtual 152, 3) := by decide +kernel
theorem dX12_fits_13 : decode cX12_fits 13 = .ok (.ifCond .ne 5, 3) := by decide +kernel
theorem dX12_fits_16 : decode cX12_fits 16 = .ok (.iconst (-1), 1) := by decide +kernel
theorem dX12_fits_17 : decode cX12_fits 17 = .ok (.ireturn, 1) := by decide +kernel
theorem dX12_fits_18 : decode cX12_fits 18 = .ok (.aload_n 0, 1) := by decide +kernel
theorem dX12_fits_19 : decode cX12_fits 19 = .ok (.iload_n 1, 1) := by decide +kernel
theorem dX12_fits_20 : decode cX12_fits 20 = .ok (.iload_n 2, 1) := by decide +kernel
theorem dX12_fits_21 : decode cX12_fits 21 = .ok (.invokevirtual 173, 3) := by decide +kernel
theorem dX12_fits_24 : decode cX12_fits 24 = .ok (.ifCond .eq 7, 3) := by decide +kernel
theorem dX12_fits_27 : decode cX12_fits 27 = .ok (.iconst 1, 1) := by decide +kernel
theorem dX12_fits_28 : decode cX12_fits 28 = .ok (.goto 4, 3) := by decide +kernel
theorem dX12_fits_31 : decode cX12_fits 31 = .ok (.iconst 0, 1) := by decide +kernel
theorem dX12_fits_32 : decode cX12_fits 32 = .ok (.ireturn, 1) := by decide +kernel
theorem dX12_sort_0 : decode cX12_sort 0 = .ok (.iconst 0, 1) := by decide +kernel
theorem dX12_sort_1 : decode cX12_sort 1 = .ok (.istore_n 1, 1) := by decide +kernel
theorem dX12_sort_2 : decode cX12_sort 2 = .ok (.iconst 0, 1) := by decide +kernel
theorem dX12_sort_3 : decode cX12_sort 3 = .ok (.istore_n 2, 1) := by decide +kernel
theorem dX12_sort_4 : decode cX12_sort 4 = .ok (.iload_n 2, 1) := by decide +kernel
theorem dX12_sort_5 : decode cX12_sort 5 = .ok (.aload_n 0, 1) := by decide +kernel
theorem dX12_sort_6 : decode cX12_sort 6 = .ok (.getfield 132, 3) := by decide +kernel
theorem dX12_sort_9 : decode cX12_sort 9 = .ok (.if_icmp .ge 67, 3) := by decide +kernel
theorem dX12_sort_12 : decode cX12_sort 12 = .ok (.aload_n 0, 1) := by decide +kernel
theorem dX12_sort_13 : decode cX12_sort 13 = .ok (.getfield 42, 3) := by decide +kernel
theorem dX12_sort_16 : decode cX12_sort 16 = .ok (.iload_n 2, 1) := by decide +kernel
theorem dX12_sort_17 : decode cX12_sort 17 = .ok (.iaload, 1) := by decide +kernel
theorem dX12_sort_18 : decode cX12_sort 18 = .ok (.iconst (-1), 1) := by decide +kernel
theorem dX12_sort_19 : decode cX12_sort 19 = .ok (.if_icmp .ne 51, 3) := by decide +kernel
theorem dX12_sort_22 : decode cX12_sort 22 = .ok (.aload_n 0, 1) := by decide +kernel
theorem dX12_sort_23 : decode cX12_sort 23 = .ok (.iload_n 2, 1) := by decide +kernel
theorem dX12_sort_24 : decode cX12_sort 24 = .ok (.invokevirtual 176, 3) := by decide +kernel
theorem dX12_sort_27 : decode cX12_sort 27 = .ok (.iconst 1, 1) := by decide +kernel
theorem dX12_sort_28 : decode cX12_sort 28 = .ok (.if_icmp .eq 6, 3) := by decide +kernel
theorem dX12_sort_31 : decode cX12_sort 31 = .ok (.goto 39, 3) := by decide +kernel
theorem dX12_sort_34 : decode cX12_sort 34 = .ok (.iconst 0, 1) := by decide +kernel
theorem dX12_sort_35 : decode cX12_sort 35 = .ok (.istore_n 3, 1) := by decide +kernel
theorem dX12_sort_36 : decode cX12_sort 36 = .ok (.aload_n 0, 1) := by decide +kernel
theorem dX12_sort_37 : decode cX12_sort 37 = .ok (.iload_n 2, 1) := by decide +kernel
theorem dX12_sort_38 : decode cX12_sort 38 = .ok (.iload_n 3, 1) := by decide +kernel
theorem dX12_sort_39 : decode cX12_sort 39 = .ok (.invokevirtual 173, 3) := by decide +kernel
theorem dX12_sort_42 : decode cX12_sort 42 = .ok (.ifCond .ne 10, 3) := by decide +kernel
theorem dX12_sort_45 : decode cX12_sort 45 = .ok (.iload_n 3, 1) := by decide +kernel
theorem dX12_sort_46 : decode cX12_sort 46 = .ok (.iconst 1, 1) := by decide +kernel
theorem dX12_sort_47 : decode cX12_sort 47 = .ok (.iadd, 1) := by decide +kernel
theorem dX12_sort_48 : decode cX12_sort 48 = .ok (.istore_n 3, 1) := by decide +kernel
theorem dX12_sort_49 : decode cX12_sort 49 = .ok (.goto (-13), 3) := by decide +kernel
theorem dX12_sort_52 : decode cX12_sort 52 = .ok (.aload_n 0, 1) := by decide +kernel
theorem dX12_sort_53 : decode cX12_sort 53 = .ok (.getfield 42, 3) := by decide +kernel
theorem dX12_sort_56 : decode cX12_sort 56 = .ok (.iload_n 2, 1) := by decide +kernel
theorem dX12_sort_57 : decode cX12_sort 57 = .ok (.iload_n 3, 1) := by decide +kernel
theorem dX12_sort_58 : decode cX12_sort 58 = .ok (.iastore, 1) := by decide +kernel
theorem dX12_sort_59 : decode cX12_sort 59 = .ok (.aload_n 0, 1) := by decide +kernel
theorem dX12_sort_60 : decode cX12_sort 60 = .ok (.getfield 45, 3) := by decide +kernel
theorem dX12_sort_63 : decode cX12_sort 63 = .ok (.iload_n 2, 1) := by decide +kernel
theorem dX12_sort_64 : decode cX12_sort 64 = .ok (.iconst (-1), 1) := by decide +kernel
theorem dX12_sort_65 : decode cX12_sort 65 = .ok (.iastore, 1) := by decide +kernel
theorem dX12_sort_66 : decode cX12_sort 66 = .ok (.iload_n 1, 1) := by decide +kernel
theorem dX12_sort_67 : decode cX12_sort 67 = .ok (.iconst 1, 1) := by decide +kernel
theorem dX12_sort_68 : decode cX12_sort 68 = .ok (.iadd, 1) := by decide +kernel
theorem dX12_sort_69 : decode cX12_sort 69 = .ok (.istore_n 1, 1) := by decide +kernel
theorem dX12_sort_70 : decode cX12_sort 70 = .ok (.iinc 2 1, 3) := by decide +kernel
theorem dX12_sort_73 : decode cX12_sort 73 = .ok (.goto (-69), 3) := by decide +kernel
theorem dX12_sort_76 : decode cX12_sort 76 = .ok (.iload_n 1, 1) := by decide +kernel
theorem dX12_sort_77 : decode cX12_sort 77 = .ok (.ireturn, 1) := by decide +kernel
theorem dX12_isSense_0 : decode cX12_isSense 0 = .ok (.iload_n 1, 1) := by decide +kernel
theorem dX12_isSense_1 : decode cX12_isSense 1 = .ok (.ifCond .lt 22, 3) := by decide +kernel
theorem dX12_isSense_4 : decode cX12_isSense 4 = .ok (.iload_n 1, 1) := by decide +kernel
theorem dX12_isSense_5 : decode cX12_isSense 5 = .ok (.bipush 40, 2) := by decide +kernel
theorem dX12_isSense_7 : decode cX12_isSense 7 = .ok (.if_icmp .ge 16, 3) := by decide +kernel
theorem dX12_isSense_10 : decode cX12_isSense 10 = .ok (.aload_n 0, 1) := by decide +kernel
theorem dX12_isSense_11 : decode cX12_isSense 11 = .ok (.getfield 73, 3) := by decide +kernel
theorem dX12_isSense_14 : decode cX12_isSense 14 = .ok (.iload_n 1, 1) := by decide +kernel
theorem dX12_isSense_15 : decode cX12_isSense 15 = .ok (.baload, 1) := by decide +kernel
theorem dX12_isSense_16 : decode cX12_isSense 16 = .ok (.ifCond .eq 7, 3) := by decide +kernel
theorem dX12_isSense_19 : decode cX12_isSense 19 = .ok (.iconst 1, 1) := by decide +kernel
theorem dX12_isSense_20 : decode cX12_isSense 20 = .ok (.goto 4, 3) := by decide +kernel
theorem dX12_isSense_23 : decode cX12_isSense 23 = .ok (.iconst 0, 1) := by decide +kernel
theorem dX12_isSense_24 : decode cX12_isSense 24 = .ok (.ireturn, 1) := by decide +kernel
theorem dX12_makes_0 : decode cX12_makes 0 = .ok (.iconst 0, 1) := by decide +kernel
theorem dX12_makes_1 : decode cX12_makes 1 = .ok (.istore_n 3, 1) := by decide +kernel
theorem dX12_makes_2 : decode cX12_makes 2 = .ok (.iload_n 3, 1) := by decide +kernel
theorem dX12_makes_3 : decode cX12_makes 3 = .ok (.bipush 40, 2) := by decide +kernel
theorem dX12_makes_5 : decode cX12_makes 5 = .ok (.if_icmp .ge 19, 3) := by decide +kernel
theorem dX12_makes_8 : decode cX12_makes 8 = .ok (.aload_n 0, 1) := by decide +kernel
theorem dX12_makes_9 : decode cX12_makes 9 = .ok (.getfield 73, 3) := by decide +kernel
theorem dX12_makes_12 : decode cX12_makes 12 = .ok (.iload_n 3, 1) := by decide +kernel
theorem dX12_makes_13 : decode cX12_makes 13 = .ok (.baload, 1) := by decide +kernel
theorem dX12_makes_14 : decode cX12_makes 14 = .ok (.ifCond .eq 10, 3) := by decide +kernel
theorem dX12_makes_17 : decode cX12_makes 17 = .ok (.iload_n 3, 1) := by decide +kernel
theorem dX12_makes_18 : decode cX12_makes 18 = .ok (.iconst 1, 1) := by decide +kernel
theorem dX12_makes_19 : decode cX12_makes 19 = .ok (.iadd, 1) := by decide +kernel
theorem dX12_makes_20 : decode cX12_makes 20 = .ok (.istore_n 3, 1) := by decide +kernel
theorem dX12_makes_21 : decode cX12_makes 21 = .ok (.goto (-19), 3) := by decide +kernel
theorem dX12_makes_24 : decode cX12_makes 24 = .ok (.iload_n 3, 1) := by decide +kernel
theorem dX12_makes_25 : decode cX12_makes 25 = .ok (.bipush 40, 2) := by decide +kernel
theorem dX12_makes_27 : decode cX12_makes 27 = .ok (.if_icmp .ne 5, 3) := by decide +kernel
theorem dX12_makes_30 : decode cX12_makes 30 = .ok (.iconst (-1), 1) := by decide +kernel
theorem dX12_makes_31 : decode cX12_makes 31 = .ok (.ireturn, 1) := by decide +kernel
theorem dX12_makes_32 : decode cX12_makes 32 = .ok (.aload_n 0, 1) := by decide +kernel
theorem dX12_makes_33 : decode cX12_makes 33 = .ok (.getfield 73, 3) := by decide +kernel
theorem dX12_makes_36 : decode cX12_makes 36 = .ok (.iload_n 3, 1) := by decide +kernel
theorem dX12_makes_37 : decode cX12_makes 37 = .ok (.iconst 1, 1) := by decide +kernel
theorem dX12_makes_38 : decode cX12_makes 38 = .ok (.bastore, 1) := by decide +kernel
theorem dX12_makes_39 : decode cX12_makes 39 = .ok (.aload_n 0, 1) := by decide +kernel
theorem dX12_makes_40 : decode cX12_makes 40 = .ok (.getfield 76, 3) := by decide +kernel
theorem dX12_makes_43 : decode cX12_makes 43 = .ok (.iload_n 3, 1) := by decide +kernel
theorem dX12_makes_44 : decode cX12_makes 44 = .ok (.iload_n 1, 1) := by decide +kernel
theorem dX12_makes_45 : decode cX12_makes 45 = .ok (.iastore, 1) := by decide +kernel
theorem dX12_makes_46 : decode cX12_makes 46 = .ok (.aload_n 0, 1) := by decide +kernel
theorem dX12_makes_47 : decode cX12_makes 47 = .ok (.getfield 79, 3) := by decide +kernel
theorem dX12_makes_50 : decode cX12_makes 50 = .ok (.iload_n 3, 1) := by decide +kernel
theorem dX12_makes_51 : decode cX12_makes 51 = .ok (.iload_n 2, 1) := by decide +kernel
theorem dX12_makes_52 : decode cX12_makes 52 = .ok (.iastore, 1) := by decide +kernel
theorem dX12_makes_53 : decode cX12_makes 53 = .ok (.iload_n 3, 1) := by decide +kernel
theorem dX12_makes_54 : decode cX12_makes 54 = .ok (.ireturn, 1) := by decide +kernel
theorem dX12_sense_0 : decode cX12_sense 0 = .ok (.aload_n 0, 1) := by decide +kernel
theorem dX12_sense_1 : decode cX12_sense 1 = .ok (.iload_n 1, 1) := by decide +kernel
theorem dX12_sense_2 : decode cX12_sense 2 = .ok (.invokevirtual 152, 3) := by decide +kernel
theorem dX12_sense_5 : decode cX12_sense 5 = .ok (.ifCond .eq 26, 3) := by decide +kernel
theorem dX12_sense_8 : decode cX12_sense 8 = .ok (.iload_n 2, 1) := by decide +kernel
theorem dX12_sense_9 : decode cX12_sense 9 = .ok (.iconst (-1), 1) := by decide +kernel
theorem dX12_sense_10 : decode cX12_sense 10 = .ok (.if_icmp .eq 23, 3) := by decide +kernel
theorem dX12_sense_13 : decode cX12_sense 13 = .ok (.aload_n 0, 1) := by decide +kernel
theorem dX12_sense_14 : decode cX12_sense 14 = .ok (.iload_n 2, 1) := by decide +kernel
theorem dX12_sense_15 : decode cX12_sense 15 = .ok (.invokevirtual 186, 3) := by decide +kernel
theorem dX12_sense_18 : decode cX12_sense 18 = .ok (.ifCond .eq 13, 3) := by decide +kernel
theorem dX12_sense_21 : decode cX12_sense 21 = .ok (.aload_n 0, 1) := by decide +kernel
theorem dX12_sense_22 : decode cX12_sense 22 = .ok (.getfield 76, 3) := by decide +kernel
theorem dX12_sense_25 : decode cX12_sense 25 = .ok (.iload_n 2, 1) := by decide +kernel
theorem dX12_sense_26 : decode cX12_sense 26 = .ok (.iaload, 1) := by decide +kernel
theorem dX12_sense_27 : decode cX12_sense 27 = .ok (.iload_n 1, 1) := by decide +kernel
theorem dX12_sense_28 : decode cX12_sense 28 = .ok (.if_icmp .eq 5, 3) := by decide +kernel
theorem dX12_sense_31 : decode cX12_sense 31 = .ok (.iconst (-1), 1) := by decide +kernel
theorem dX12_sense_32 : decode cX12_sense 32 = .ok (.ireturn, 1) := by decide +kernel
theorem dX12_sense_33 : decode cX12_sense 33 = .ok (.aload_n 0, 1) := by decide +kernel
theorem dX12_sense_34 : decode cX12_sense 34 = .ok (.iload_n 1, 1) := by decide +kernel
theorem dX12_sense_35 : decode cX12_sense 35 = .ok (.iload_n 2, 1) := by decide +kernel
theorem dX12_sense_36 : decode cX12_sense 36 = .ok (.invokevirtual 189, 3) := by decide +kernel
theorem dX12_sense_39 : decode cX12_sense 39 = .ok (.ireturn, 1) := by decide +kernel
theorem dX12_put_0 : decode cX12_put 0 = .ok (.aload_n 0, 1) := by decide +kernel
theorem dX12_put_1 : decode cX12_put 1 = .ok (.iload_n 1, 1) := by decide +kernel
theorem dX12_put_2 : decode cX12_put 2 = .ok (.invokevirtual 183, 3) := by decide +kernel
theorem dX12_put_5 : decode cX12_put 5 = .ok (.ifCond .eq 39, 3) := by decide +kernel
theorem dX12_put_8 : decode cX12_put 8 = .ok (.iload_n 2, 1) := by decide +kernel
theorem dX12_put_9 : decode cX12_put 9 = .ok (.iconst (-1), 1) := by decide +kernel
theorem dX12_put_10 : decode cX12_put 10 = .ok (.if_icmp .eq 11, 3) := by decide +kernel
theorem dX12_put_13 : decode cX12_put 13 = .ok (.aload_n 0, 1) := by decide +kernel
theorem dX12_put_14 : decode cX12_put 14 = .ok (.iload_n 2, 1) := by decide +kernel
theorem dX12_put_15 : decode cX12_put 15 = .ok (.invokevirtual 152, 3) := by decide +kernel
theorem dX12_put_18 : decode cX12_put 18 = .ok (.ifCond .eq 26, 3) := by decide +kernel
theorem dX12_put_21 : decode cX12_put 21 = .ok (.iload_n 3, 1) := by decide +kernel
theorem dX12_put_22 : decode cX12_put 22 = .ok (.iconst (-1), 1) := by decide +kernel
theorem dX12_put_23 : decode cX12_put 23 = .ok (.if_icmp .eq 23, 3) := by decide +kernel
theorem dX12_put_26 : decode cX12_put 26 = .ok (.aload_n 0, 1) := by decide +kernel
theorem dX12_put_27 : decode cX12_put 27 = .ok (.iload_n 3, 1) := by decide +kernel
theorem dX12_put_28 : decode cX12_put 28 = .ok (.invokevirtual 186, 3) := by decide +kernel
theorem dX12_put_31 : decode cX12_put 31 = .ok (.ifCond .eq 13, 3) := by decide +kernel
theorem dX12_put_34 : decode cX12_put 34 = .ok (.aload_n 0, 1) := by decide +kernel
theorem dX12_put_35 : decode cX12_put 35 = .ok (.getfield 76, 3) := by decide +kernel
theorem dX12_put_38 : decode cX12_put 38 = .ok (.iload_n 3, 1) := by decide +kernel
theorem dX12_put_39 : decode cX12_put 39 = .ok (.iaload, 1) := by decide +kernel
theorem dX12_put_40 : decode cX12_put 40 = .ok (.iload_n 2, 1) := by decide +kernel
theorem dX12_put_41 : decode cX12_put 41 = .ok (.if_icmp .eq 5, 3) := by decide +kernel
theorem dX12_put_44 : decode cX12_put 44 = .ok (.iconst 0, 1) := by decide +kernel
theorem dX12_put_45 : decode cX12_put 45 = .ok (.ireturn, 1) := by decide +kernel
theorem dX12_put_46 : decode cX12_put 46 = .ok (.aload_n 0, 1) := by decide +kernel
theorem dX12_put_47 : decode cX12_put 47 = .ok (.getfield 42, 3) := by decide +kernel
theorem dX12_put_50 : decode cX12_put 50 = .ok (.iload_n 1, 1) := by decide +kernel
theorem dX12_put_51 : decode cX12_put 51 = .ok (.iaload, 1) := by decide +kernel
theorem dX12_put_52 : decode cX12_put 52 = .ok (.iload_n 2, 1) := by decide +kernel
theorem dX12_put_53 : decode cX12_put 53 = .ok (.if_icmp .ne 15, 3) := by decide +kernel
theorem dX12_put_56 : decode cX12_put 56 = .ok (.aload_n 0, 1) := by decide +kernel
theorem dX12_put_57 : decode cX12_put 57 = .ok (.getfield 45, 3) := by decide +kernel
theorem dX12_put_60 : decode cX12_put 60 = .ok (.iload_n 1, 1) := by decide +kernel
theorem dX12_put_61 : decode cX12_put 61 = .ok (.iaload, 1) := by decide +kernel
theorem dX12_put_62 : decode cX12_put 62 = .ok (.iload_n 3, 1) := by decide +kernel
theorem dX12_put_63 : decode cX12_put 63 = .ok (.if_icmp .ne 5, 3) := by decide +kernel
theorem dX12_put_66 : decode cX12_put 66 = .ok (.iconst 0, 1) := by decide +kernel
theorem dX12_put_67 : decode cX12_put 67 = .ok (.ireturn, 1) := by decide +kernel
theorem dX12_put_68 : decode cX12_put 68 = .ok (.aload_n 0, 1) := by decide +kernel
theorem dX12_put_69 : decode cX12_put 69 = .ok (.getfield 42, 3) := by decide +kernel
theorem dX12_put_72 : decode cX12_put 72 = .ok (.iload_n 1, 1) := by decide +kernel
theorem dX12_put_73 : decode cX12_put 73 = .ok (.iload_n 2, 1) := by decide +kernel
theorem dX12_put_74 : decode cX12_put 74 = .ok (.iastore, 1) := by decide +kernel
theorem dX12_put_75 : decode cX12_put 75 = .ok (.aload_n 0, 1) := by decide +kernel
theorem dX12_put_76 : decode cX12_put 76 = .ok (.getfield 45, 3) := by decide +kernel
theorem dX12_put_79 : decode cX12_put 79 = .ok (.iload_n 1, 1) := by decide +kernel
theorem dX12_put_80 : decode cX12_put 80 = .ok (.iload_n 3, 1) := by decide +kernel
theorem dX12_put_81 : decode cX12_put 81 = .ok (.iastore, 1) := by decide +kernel
theorem dX12_put_82 : decode cX12_put 82 = .ok (.iconst 1, 1) := by decide +kernel
theorem dX12_put_83 : decode cX12_put 83 = .ok (.ireturn, 1) := by decide +kernel
theorem dX12_isWithin_0 : decode cX12_isWithin 0 = .ok (.iload_n 1, 1) := by decide +kernel
theorem dX12_isWithin_1 : decode cX12_isWithin 1 = .ok (.istore_n 3, 1) := by decide +kernel
theorem dX12_isWithin_2 : decode cX12_isWithin 2 = .ok (.iload_n 3, 1) := by decide +kernel
theorem dX12_isWithin_3 : decode cX12_isWithin 3 = .ok (.iconst (-1), 1) := by decide +kernel
theorem dX12_isWithin_4 : decode cX12_isWithin 4 = .ok (.if_icmp .eq 18, 3) := by decide +kernel
theorem dX12_isWithin_7 : decode cX12_isWithin 7 = .ok (.iload_n 3, 1) := by decide +kernel
theorem dX12_isWithin_8 : decode cX12_isWithin 8 = .ok (.iload_n 2, 1) := by decide +kernel
theorem dX12_isWithin_9 : decode cX12_isWithin 9 = .ok (.if_icmp .eq 13, 3) := by decide +kernel
theorem dX12_isWithin_12 : decode cX12_isWithin 12 = .ok (.aload_n 0, 1) := by decide +kernel
theorem dX12_isWithin_13 : decode cX12_isWithin 13 = .ok (.getfield 79, 3) := by decide +kernel
theorem dX12_isWithin_16 : decode cX12_isWithin 16 = .ok (.iload_n 3, 1) := by decide +kernel
theorem dX12_isWithin_17 : decode cX12_isWithin 17 = .ok (.iaload, 1) := by decide +kernel
theorem dX12_isWithin_18 : decode cX12_isWithin 18 = .ok (.istore_n 3, 1) := by decide +kernel
theorem dX12_isWithin_19 : decode cX12_isWithin 19 = .ok (.goto (-17), 3) := by decide +kernel
theorem dX12_isWithin_22 : decode cX12_isWithin 22 = .ok (.iload_n 3, 1) := by decide +kernel
theorem dX12_isWithin_23 : decode cX12_isWithin 23 = .ok (.iload_n 2, 1) := by decide +kernel
theorem dX12_isWithin_24 : decode cX12_isWithin 24 = .ok (.if_icmp .ne 7, 3) := by decide +kernel
theorem dX12_isWithin_27 : decode cX12_isWithin 27 = .ok (.iconst 1, 1) := by decide +kernel
theorem dX12_isWithin_28 : decode cX12_isWithin 28 = .ok (.goto 4, 3) := by decide +kernel
theorem dX12_isWithin_31 : decode cX12_isWithin 31 = .ok (.iconst 0, 1) := by decide +kernel
theorem dX12_isWithin_32 : decode cX12_isWithin 32 = .ok (.ireturn, 1) := by decide +kernel
theorem dX12_move_0 : decode cX12_move 0 = .ok (.aload_n 0, 1) := by decide +kernel
theorem dX12_move_1 : decode cX12_move 1 = .ok (.iload_n 1, 1) := by decide +kernel
theorem dX12_move_2 : decode cX12_move 2 = .ok (.invokevirtual 186, 3) := by decide +kernel
theorem dX12_move_5 : decode cX12_move 5 = .ok (.ifCond .eq 50, 3) := by decide +kernel
theorem dX12_move_8 : decode cX12_move 8 = .ok (.iload_n 2, 1) := by decide +kernel
theorem dX12_move_9 : decode cX12_move 9 = .ok (.iconst (-1), 1) := by decide +kernel
theorem dX12_move_10 : decode cX12_move 10 = .ok (.if_icmp .eq 35, 3) := by decide +kernel
theorem dX12_move_13 : decode cX12_move 13 = .ok (.aload_n 0, 1) := by decide +kernel
theorem dX12_move_14 : decode cX12_move 14 = .ok (.iload_n 2, 1) := by decide +kernel
theorem dX12_move_15 : decode cX12_move 15 = .ok (.invokevirtual 186, 3) := by decide +kernel
theorem dX12_move_18 : decode cX12_move 18 = .ok (.ifCond .eq 37, 3) := by decide +kernel
theorem dX12_move_21 : decode cX12_move 21 = .ok (.aload_n 0, 1) := by decide +kernel
theorem dX12_move_22 : decode cX12_move 22 = .ok (.getfield 76, 3) := by decide +kernel
theorem dX12_move_25 : decode cX12_move 25 = .ok (.iload_n 2, 1) := by decide +kernel
theorem dX12_move_26 : decode cX12_move 26 = .ok (.iaload, 1) := by decide +kernel
theorem dX12_move_27 : decode cX12_move 27 = .ok (.aload_n 0, 1) := by decide +kernel
theorem dX12_move_28 : decode cX12_move 28 = .ok (.getfield 76, 3) := by decide +kernel
theorem dX12_move_31 : decode cX12_move 31 = .ok (.iload_n 1, 1) := by decide +kernel
theorem dX12_move_32 : decode cX12_move 32 = .ok (.iaload, 1) := by decide +kernel
theorem dX12_move_33 : decode cX12_move 33 = .ok (.if_icmp .ne 22, 3) := by decide +kernel
theorem dX12_move_36 : decode cX12_move 36 = .ok (.aload_n 0, 1) := by decide +kernel
theorem dX12_move_37 : decode cX12_move 37 = .ok (.iload_n 2, 1) := by decide +kernel
theorem dX12_move_38 : decode cX12_move 38 = .ok (.iload_n 1, 1) := by decide +kernel
theorem dX12_move_39 : decode cX12_move 39 = .ok (.invokevirtual 193, 3) := by decide +kernel
theorem dX12_move_42 : decode cX12_move 42 = .ok (.ifCond .ne 13, 3) := by decide +kernel
theorem dX12_move_45 : decode cX12_move 45 = .ok (.aload_n 0, 1) := by decide +kernel
theorem dX12_move_46 : decode cX12_move 46 = .ok (.getfield 79, 3) := by decide +kernel
theorem dX12_move_49 : decode cX12_move 49 = .ok (.iload_n 1, 1) := by decide +kernel
theorem dX12_move_50 : decode cX12_move 50 = .ok (.iaload, 1) := by decide +kernel
theorem dX12_move_51 : decode cX12_move 51 = .ok (.iload_n 2, 1) := by decide +kernel
theorem dX12_move_52 : decode cX12_move 52 = .ok (.if_icmp .ne 5, 3) := by decide +kernel
theorem dX12_move_55 : decode cX12_move 55 = .ok (.iconst 0, 1) := by decide +kernel
theorem dX12_move_56 : decode cX12_move 56 = .ok (.ireturn, 1) := by decide +kernel
theorem dX12_move_57 : decode cX12_move 57 = .ok (.aload_n 0, 1) := by decide +kernel
theorem dX12_move_58 : decode cX12_move 58 = .ok (.getfield 79, 3) := by decide +kernel
theorem dX12_move_61 : decode cX12_move 61 = .ok (.iload_n 1, 1) := by decide +kernel
theorem dX12_move_62 : decode cX12_move 62 = .ok (.iload_n 2, 1) := by decide +kernel
theorem dX12_move_63 : decode cX12_move 63 = .ok (.iastore, 1) := by decide +kernel
theorem dX12_move_64 : decode cX12_move 64 = .ok (.iconst 1, 1) := by decide +kernel
theorem dX12_move_65 : decode cX12_move 65 = .ok (.ireturn, 1) := by decide +kernel
theorem dX12_goes_0 : decode cX12_goes 0 = .ok (.aload_n 0, 1) := by decide +kernel
theorem dX12_goes_1 : decode cX12_goes 1 = .ok (.getfield 73, 3) := by decide +kernel
theorem dX12_goes_4 : decode cX12_goes 4 = .ok (.iload_n 1, 1) := by decide +kernel
theorem dX12_goes_5 : decode cX12_goes 5 = .ok (.iconst 0, 1) := by decide +kernel
theorem dX12_goes_6 : decode cX12_goes 6 = .ok (.bastore, 1) := by decide +kernel
theorem dX12_goes_7 : decode cX12_goes 7 = .ok (.aload_n 0, 1) := by decide +kernel
theorem dX12_goes_8 : decode cX12_goes 8 = .ok (.getfield 196, 3) := by decide +kernel
theorem dX12_goes_11 : decode cX12_goes 11 = .ok (.iconst 1, 1) := by decide +kernel
theorem dX12_goes_12 : decode cX12_goes 12 = .ok (.isub, 1) := by decide +kernel
theorem dX12_goes_13 : decode cX12_goes 13 = .ok (.istore_n 2, 1) := by decide +kernel
theorem dX12_goes_14 : decode cX12_goes 14 = .ok (.iload_n 2, 1) := by decide +kernel
theorem dX12_goes_15 : decode cX12_goes 15 = .ok (.ifCond .lt 41, 3) := by decide +kernel
theorem dX12_goes_18 : decode cX12_goes 18 = .ok (.aload_n 0, 1) := by decide +kernel
theorem dX12_goes_19 : decode cX12_goes 19 = .ok (.getfield 85, 3) := by decide +kernel
theorem dX12_goes_22 : decode cX12_goes 22 = .ok (.iload_n 2, 1) := by decide +kernel
theorem dX12_goes_23 : decode cX12_goes 23 = .ok (.iaload, 1) := by decide +kernel
theorem dX12_goes_24 : decode cX12_goes 24 = .ok (.iload_n 1, 1) := by decide +kernel
theorem dX12_goes_25 : decode cX12_goes 25 = .ok (.if_icmp .ne 10, 3) := by decide +kernel
theorem dX12_goes_28 : decode cX12_goes 28 = .ok (.aload_n 0, 1) := by decide +kernel
theorem dX12_goes_29 : decode cX12_goes 29 = .ok (.getfield 85, 3) := by decide +kernel
theorem dX12_goes_32 : decode cX12_goes 32 = .ok (.iload_n 2, 1) := by decide +kernel
theorem dX12_goes_33 : decode cX12_goes 33 = .ok (.iconst (-1), 1) := by decide +kernel
theorem dX12_goes_34 : decode cX12_goes 34 = .ok (.iastore, 1) := by decide +kernel
theorem dX12_goes_35 : decode cX12_goes 35 = .ok (.aload_n 0, 1) := by decide +kernel
theorem dX12_goes_36 : decode cX12_goes 36 = .ok (.getfield 82, 3) := by decide +kernel
theorem dX12_goes_39 : decode cX12_goes 39 = .ok (.iload_n 2, 1) := by decide +kernel
theorem dX12_goes_40 : decode cX12_goes 40 = .ok (.iaload, 1) := by decide +kernel
theorem dX12_goes_41 : decode cX12_goes 41 = .ok (.iload_n 1, 1) := by decide +kernel
theorem dX12_goes_42 : decode cX12_goes 42 = .ok (.if_icmp .ne 8, 3) := by decide +kernel
theorem dX12_goes_45 : decode cX12_goes 45 = .ok (.aload_n 0, 1) := by decide +kernel
theorem dX12_goes_46 : decode cX12_goes 46 = .ok (.iload_n 2, 1) := by decide +kernel
theorem dX12_goes_47 : decode cX12_goes 47 = .ok (.invokevirtual 199, 3) := by decide +kernel
theorem dX12_goes_50 : decode cX12_goes 50 = .ok (.iinc 2 (-1), 3) := by decide +kernel
theorem dX12_goes_53 : decode cX12_goes 53 = .ok (.goto (-39), 3) := by decide +kernel
theorem dX12_goes_56 : decode cX12_goes 56 = .ok (.return_, 1) := by decide +kernel
theorem dX12_join_0 : decode cX12_join 0 = .ok (.aload_n 0, 1) := by decide +kernel
theorem dX12_join_1 : decode cX12_join 1 = .ok (.iload_n 1, 1) := by decide +kernel
theorem dX12_join_2 : decode cX12_join 2 = .ok (.invokevirtual 186, 3) := by decide +kernel
theorem dX12_join_5 : decode cX12_join 5 = .ok (.ifCond .eq 40, 3) := by decide +kernel
theorem dX12_join_8 : decode cX12_join 8 = .ok (.aload_n 0, 1) := by decide +kernel
theorem dX12_join_9 : decode cX12_join 9 = .ok (.iload_n 2, 1) := by decide +kernel
theorem dX12_join_10 : decode cX12_join 10 = .ok (.invokevirtual 186, 3) := by decide +kernel
theorem dX12_join_13 : decode cX12_join 13 = .ok (.ifCond .eq 32, 3) := by decide +kernel
theorem dX12_join_16 : decode cX12_join 16 = .ok (.iload_n 1, 1) := by decide +kernel
theorem dX12_join_17 : decode cX12_join 17 = .ok (.iload_n 2, 1) := by decide +kernel
theorem dX12_join_18 : decode cX12_join 18 = .ok (.if_icmp .eq 27, 3) := by decide +kernel
theorem dX12_join_21 : decode cX12_join 21 = .ok (.aload_n 0, 1) := by decide +kernel
theorem dX12_join_22 : decode cX12_join 22 = .ok (.getfield 76, 3) := by decide +kernel
theorem dX12_join_25 : decode cX12_join 25 = .ok (.iload_n 1, 1) := by decide +kernel
theorem dX12_join_26 : decode cX12_join 26 = .ok (.iaload, 1) := by decide +kernel
theorem dX12_join_27 : decode cX12_join 27 = .ok (.aload_n 0, 1) := by decide +kernel
theorem dX12_join_28 : decode cX12_join 28 = .ok (.getfield 76, 3) := by decide +kernel
theorem dX12_join_31 : decode cX12_join 31 = .ok (.iload_n 2, 1) := by decide +kernel
theorem dX12_join_32 : decode cX12_join 32 = .ok (.iaload, 1) := by decide +kernel
theorem dX12_join_33 : decode cX12_join 33 = .ok (.if_icmp .ne 12, 3) := by decide +kernel
theorem dX12_join_36 : decode cX12_join 36 = .ok (.aload_n 0, 1) := by decide +kernel
theorem dX12_join_37 : decode cX12_join 37 = .ok (.iload_n 2, 1) := by decide +kernel
theorem dX12_join_38 : decode cX12_join 38 = .ok (.iload_n 1, 1) := by decide +kernel
theorem dX12_join_39 : decode cX12_join 39 = .ok (.invokevirtual 193, 3) := by decide +kernel
theorem dX12_join_42 : decode cX12_join 42 = .ok (.ifCond .eq 5, 3) := by decide +kernel
theorem dX12_join_45 : decode cX12_join 45 = .ok (.iconst 0, 1) := by decide +kernel
theorem dX12_join_46 : decode cX12_join 46 = .ok (.ireturn, 1) := by decide +kernel
theorem dX12_join_47 : decode cX12_join 47 = .ok (.iconst 0, 1) := by decide +kernel
theorem dX12_join_48 : decode cX12_join 48 = .ok (.istore_n 3, 1) := by decide +kernel
theorem dX12_join_49 : decode cX12_join 49 = .ok (.iload_n 3, 1) := by decide +kernel
theorem dX12_join_50 : decode cX12_join 50 = .ok (.aload_n 0, 1) := by decide +kernel
theorem dX12_join_51 : decode cX12_join 51 = .ok (.getfield 132, 3) := by decide +kernel
theorem dX12_join_54 : decode cX12_join 54 = .ok (.if_icmp .ge 26, 3) := by decide +kernel
theorem dX12_join_57 : decode cX12_join 57 = .ok (.aload_n 0, 1) := by decide +kernel
theorem dX12_join_58 : decode cX12_join 58 = .ok (.getfield 45, 3) := by decide +kernel
theorem dX12_join_61 : decode cX12_join 61 = .ok (.iload_n 3, 1) := by decide +kernel
theorem dX12_join_62 : decode cX12_join 62 = .ok (.iaload, 1) := by decide +kernel
theorem dX12_join_63 : decode cX12_join 63 = .ok (.iload_n 1, 1) := by decide +kernel
theorem dX12_join_64 : decode cX12_join 64 = .ok (.if_icmp .ne 10, 3) := by decide +kernel
theorem dX12_join_67 : decode cX12_join 67 = .ok (.aload_n 0, 1) := by decide +kernel
theorem dX12_join_68 : decode cX12_join 68 = .ok (.getfield 45, 3) := by decide +kernel
theorem dX12_join_71 : decode cX12_join 71 = .ok (.iload_n 3, 1) := by decide +kernel
theorem dX12_join_72 : decode cX12_join 72 = .ok (.iload_n 2, 1) := by decide +kernel
theorem dX12_join_73 : decode cX12_join 73 = .ok (.iastore, 1) := by decide +kernel
theorem dX12_join_74 : decode cX12_join 74 = .ok (.iinc 3 1, 3) := by decide +kernel
theorem dX12_join_77 : decode cX12_join 77 = .ok (.goto (-28), 3) := by decide +kernel
theorem dX12_join_80 : decode cX12_join 80 = .ok (.iconst 0, 1) := by decide +kernel
theorem dX12_join_81 : decode cX12_join 81 = .ok (.istore_n 3, 1) := by decide +kernel
theorem dX12_join_82 : decode cX12_join 82 = .ok (.iload_n 3, 1) := by decide +kernel
theorem dX12_join_83 : decode cX12_join 83 = .ok (.bipush 40, 2) := by decide +kernel
theorem dX12_join_85 : decode cX12_join 85 = .ok (.if_icmp .ge 35, 3) := by decide +kernel
theorem dX12_join_88 : decode cX12_join 88 = .ok (.aload_n 0, 1) := by decide +kernel
theorem dX12_join_89 : decode cX12_join 89 = .ok (.getfield 73, 3) := by decide +kernel
theorem dX12_join_92 : decode cX12_join 92 = .ok (.iload_n 3, 1) := by decide +kernel
theorem dX12_join_93 : decode cX12_join 93 = .ok (.baload, 1) := by decide +kernel
theorem dX12_join_94 : decode cX12_join 94 = .ok (.ifCond .eq 20, 3) := by decide +kernel
theorem dX12_join_97 : decode cX12_join 97 = .ok (.aload_n 0, 1) := by decide +kernel
theorem dX12_join_98 : decode cX12_join 98 = .ok (.getfield 79, 3) := by decide +kernel
theorem dX12_join_101 : decode cX12_join 101 = .ok (.iload_n 3, 1) := by decide +kernel
theorem dX12_join_102 : decode cX12_join 102 = .ok (.iaload, 1) := by decide +kernel
theorem dX12_join_103 : decode cX12_join 103 = .ok (.iload_n 1, 1) := by decide +kernel
theorem dX12_join_104 : decode cX12_join 104 = .ok (.if_icmp .ne 10, 3) := by decide +kernel
theorem dX12_join_107 : decode cX12_join 107 = .ok (.aload_n 0, 1) := by decide +kernel
theorem dX12_join_108 : decode cX12_join 108 = .ok (.getfield 79, 3) := by decide +kernel
theorem dX12_join_111 : decode cX12_join 111 = .ok (.iload_n 3, 1) := by decide +kernel
theorem dX12_join_112 : decode cX12_join 112 = .ok (.iload_n 2, 1) := by decide +kernel
theorem dX12_join_113 : decode cX12_join 113 = .ok (.iastore, 1) := by decide +kernel
theorem dX12_join_114 : decode cX12_join 114 = .ok (.iinc 3 1, 3) := by decide +kernel
theorem dX12_join_117 : decode cX12_join 117 = .ok (.goto (-35), 3) := by decide +kernel
theorem dX12_join_120 : decode cX12_join 120 = .ok (.aload_n 0, 1) := by decide +kernel
theorem dX12_join_121 : decode cX12_join 121 = .ok (.iload_n 1, 1) := by decide +kernel
theorem dX12_join_122 : decode cX12_join 122 = .ok (.invokevirtual 202, 3) := by decide +kernel
theorem dX12_join_125 : decode cX12_join 125 = .ok (.iconst 1, 1) := by decide +kernel
theorem dX12_join_126 : decode cX12_join 126 = .ok (.ireturn, 1) := by decide +kernel
theorem dX12_part_0 : decode cX12_part 0 = .ok (.aload_n 0, 1) := by decide +kernel
theorem dX12_part_1 : decode cX12_part 1 = .ok (.iload_n 1, 1) := by decide +kernel
theorem dX12_part_2 : decode cX12_part 2 = .ok (.invokevirtual 186, 3) := by decide +kernel
theorem dX12_part_5 : decode cX12_part 5 = .ok (.ifCond .eq 22, 3) := by decide +kernel
theorem dX12_part_8 : decode cX12_part 8 = .ok (.aload_n 0, 1) := by decide +kernel
theorem dX12_part_9 : decode cX12_part 9 = .ok (.aload_n 0, 1) := by decide +kernel
theorem dX12_part_10 : decode cX12_part 10 = .ok (.getfield 76, 3) := by decide +kernel
theorem dX12_part_13 : decode cX12_part 13 = .ok (.iload_n 1, 1) := by decide +kernel
theorem dX12_part_14 : decode cX12_part 14 = .ok (.iaload, 1) := by decide +kernel
theorem dX12_part_15 : decode cX12_part 15 = .ok (.aload_n 0, 1) := by decide +kernel
theorem dX12_part_16 : decode cX12_part 16 = .ok (.getfield 79, 3) := by decide +kernel
theorem dX12_part_19 : decode cX12_part 19 = .ok (.iload_n 1, 1) := by decide +kernel
theorem dX12_part_20 : decode cX12_part 20 = .ok (.iaload, 1) := by decide +kernel
theorem dX12_part_21 : decode cX12_part 21 = .ok (.invokevirtual 189, 3) := by decide +kernel
theorem dX12_part_24 : decode cX12_part 24 = .ok (.goto 4, 3) := by decide +kernel
theorem dX12_part_27 : decode cX12_part 27 = .ok (.iconst (-1), 1) := by decide +kernel
theorem dX12_part_28 : decode cX12_part 28 = .ok (.ireturn, 1) := by decide +kernel
theorem dX12_own_0 : decode cX12_own 0 = .ok (.iconst 0, 1) := by decide +kernel
theorem dX12_own_1 : decode cX12_own 1 = .ok (.istore_n 2, 1) := by decide +kernel
theorem dX12_own_2 : decode cX12_own 2 = .ok (.iconst 0, 1) := by decide +kernel
theorem dX12_own_3 : decode cX12_own 3 = .ok (.istore_n 3, 1) := by decide +kernel
theorem dX12_own_4 : decode cX12_own 4 = .ok (.iload_n 3, 1) := by decide +kernel
theorem dX12_own_5 : decode cX12_own 5 = .ok (.aload_n 0, 1) := by decide +kernel
theorem dX12_own_6 : decode cX12_own 6 = .ok (.getfield 132, 3) := by decide +kernel
theorem dX12_own_9 : decode cX12_own 9 = .ok (.if_icmp .ge 27, 3) := by decide +kernel
theorem dX12_own_12 : decode cX12_own 12 = .ok (.iload_n 2, 1) := by decide +kernel
theorem dX12_own_13 : decode cX12_own 13 = .ok (.aload_n 0, 1) := by decide +kernel
theorem dX12_own_14 : decode cX12_own 14 = .ok (.getfield 45, 3) := by decide +kernel
theorem dX12_own_17 : decode cX12_own 17 = .ok (.iload_n 3, 1) := by decide +kernel
theorem dX12_own_18 : decode cX12_own 18 = .ok (.iaload, 1) := by decide +kernel
theorem dX12_own_19 : decode cX12_own 19 = .ok (.iload_n 1, 1) := by decide +kernel
theorem dX12_own_20 : decode cX12_own 20 = .ok (.if_icmp .ne 7, 3) := by decide +kernel
theorem dX12_own_23 : decode cX12_own 23 = .ok (.iconst 1, 1) := by decide +kernel
theorem dX12_own_24 : decode cX12_own 24 = .ok (.goto 4, 3) := by decide +kernel
theorem dX12_own_27 : decode cX12_own 27 = .ok (.iconst 0, 1) := by decide +kernel
theorem dX12_own_28 : decode cX12_own 28 = .ok (.iadd, 1) := by decide +kernel
theorem dX12_own_29 : decode cX12_own 29 = .ok (.istore_n 2, 1) := by decide +kernel
theorem dX12_own_30 : decode cX12_own 30 = .ok (.iinc 3 1, 3) := by decide +kernel
theorem dX12_own_33 : decode cX12_own 33 = .ok (.goto (-29), 3) := by decide +kernel
theorem dX12_own_36 : decode cX12_own 36 = .ok (.iload_n 2, 1) := by decide +kernel
theorem dX12_own_37 : decode cX12_own 37 = .ok (.ireturn, 1) := by decide +kernel
theorem dX12_below_0 : decode cX12_below 0 = .ok (.iconst 0, 1) := by decide +kernel
theorem dX12_below_1 : decode cX12_below 1 = .ok (.istore_n 2, 1) := by decide +kernel
theorem dX12_below_2 : decode cX12_below 2 = .ok (.iconst 0, 1) := by decide +kernel
theorem dX12_below_3 : decode cX12_below 3 = .ok (.istore_n 3, 1) := by decide +kernel
theorem dX12_below_4 : decode cX12_below 4 = .ok (.iload_n 3, 1) := by decide +kernel
theorem dX12_below_5 : decode cX12_below 5 = .ok (.bipush 40, 2) := by decide +kernel
theorem dX12_below_7 : decode cX12_below 7 = .ok (.if_icmp .ge 36, 3) := by decide +kernel
theorem dX12_below_10 : decode cX12_below 10 = .ok (.iload_n 2, 1) := by decide +kernel
theorem dX12_below_11 : decode cX12_below 11 = .ok (.aload_n 0, 1) := by decide +kernel
theorem dX12_below_12 : decode cX12_below 12 = .ok (.getfield 73, 3) := by decide +kernel
theorem dX12_below_15 : decode cX12_below 15 = .ok (.iload_n 3, 1) := by decide +kernel
theorem dX12_below_16 : decode cX12_below 16 = .ok (.baload, 1) := by decide +kernel
theorem dX12_below_17 : decode cX12_below 17 = .ok (.ifCond .eq 17, 3) := by decide +kernel
theorem dX12_below_20 : decode cX12_below 20 = .ok (.aload_n 0, 1) := by decide +kernel
theorem dX12_below_21 : decode cX12_below 21 = .ok (.getfield 79, 3) := by decide +kernel
theorem dX12_below_24 : decode cX12_below 24 = .ok (.iload_n 3, 1) := by decide +kernel
theorem dX12_below_25 : decode cX12_below 25 = .ok (.iaload, 1) := by decide +kernel
theorem dX12_below_26 : decode cX12_below 26 = .ok (.iload_n 1, 1) := by decide +kernel
theorem dX12_below_27 : decode cX12_below 27 = .ok (.if_icmp .ne 7, 3) := by decide +kernel
theorem dX12_below_30 : decode cX12_below 30 = .ok (.iconst 1, 1) := by decide +kernel
theorem dX12_below_31 : decode cX12_below 31 = .ok (.goto 4, 3) := by decide +kernel
theorem dX12_below_34 : decode cX12_below 34 = .ok (.iconst 0, 1) := by decide +kernel
theorem dX12_below_35 : decode cX12_below 35 = .ok (.iadd, 1) := by decide +kernel
theorem dX12_below_36 : decode cX12_below 36 = .ok (.istore_n 2, 1) := by decide +kernel
theorem dX12_below_37 : decode cX12_below 37 = .ok (.iinc 3 1, 3) := by decide +kernel
theorem dX12_below_40 : decode cX12_below 40 = .ok (.goto (-36), 3) := by decide +kernel
theorem dX12_below_43 : decode cX12_below 43 = .ok (.iload_n 2, 1) := by decide +kernel
theorem dX12_below_44 : decode cX12_below 44 = .ok (.ireturn, 1) := by decide +kernel
theorem dX12_drop_0 : decode cX12_drop 0 = .ok (.aload_n 0, 1) := by decide +kernel
theorem dX12_drop_1 : decode cX12_drop 1 = .ok (.iload_n 1, 1) := by decide +kernel
theorem dX12_drop_2 : decode cX12_drop 2 = .ok (.invokevirtual 186, 3) := by decide +kernel
theorem dX12_drop_5 : decode cX12_drop 5 = .ok (.ifCond .eq 19, 3) := by decide +kernel
theorem dX12_drop_8 : decode cX12_drop 8 = .ok (.aload_n 0, 1) := by decide +kernel
theorem dX12_drop_9 : decode cX12_drop 9 = .ok (.iload_n 1, 1) := by decide +kernel
theorem dX12_drop_10 : decode cX12_drop 10 = .ok (.invokevirtual 205, 3) := by decide +kernel
theorem dX12_drop_13 : decode cX12_drop 13 = .ok (.ifCond .gt 11, 3) := by decide +kernel
theorem dX12_drop_16 : decode cX12_drop 16 = .ok (.aload_n 0, 1) := by decide +kernel
theorem dX12_drop_17 : decode cX12_drop 17 = .ok (.iload_n 1, 1) := by decide +kernel
theorem dX12_drop_18 : decode cX12_drop 18 = .ok (.invokevirtual 208, 3) := by decide +kernel
theorem dX12_drop_21 : decode cX12_drop 21 = .ok (.ifCond .le 5, 3) := by decide +kernel
theorem dX12_drop_24 : decode cX12_drop 24 = .ok (.iconst 0, 1) := by decide +kernel
theorem dX12_drop_25 : decode cX12_drop 25 = .ok (.ireturn, 1) := by decide +kernel
theorem dX12_drop_26 : decode cX12_drop 26 = .ok (.aload_n 0, 1) := by decide +kernel
theorem dX12_drop_27 : decode cX12_drop 27 = .ok (.iload_n 1, 1) := by decide +kernel
theorem dX12_drop_28 : decode cX12_drop 28 = .ok (.invokevirtual 202, 3) := by decide +kernel
theorem dX12_drop_31 : decode cX12_drop 31 = .ok (.iconst 1, 1) := by decide +kernel
theorem dX12_drop_32 : decode cX12_drop 32 = .ok (.ireturn, 1) := by decide +kernel
theorem dX12_removes_0 : decode cX12_removes 0 = .ok (.aload_n 0, 1) := by decide +kernel
theorem dX12_removes_1 : decode cX12_removes 1 = .ok (.aload_n 0, 1) := by decide +kernel
theorem dX12_removes_2 : decode cX12_removes 2 = .ok (.getfield 196, 3) := by decide +kernel
theorem dX12_removes_5 : decode cX12_removes 5 = .ok (.iconst 1, 1) := by decide +kernel
theorem dX12_removes_6 : decode cX12_removes 6 = .ok (.isub, 1) := by decide +kernel
theorem dX12_removes_7 : decode cX12_removes 7 = .ok (.putfield 196, 3) := by decide +kernel
theorem dX12_removes_10 : decode cX12_removes 10 = .ok (.iload_n 1, 1) := by decide +kernel
theorem dX12_removes_11 : decode cX12_removes 11 = .ok (.istore_n 2, 1) := by decide +kernel
theorem dX12_removes_12 : decode cX12_removes 12 = .ok (.iload_n 2, 1) := by decide +kernel
theorem dX12_removes_13 : decode cX12_removes 13 = .ok (.aload_n 0, 1) := by decide +kernel
theorem dX12_removes_14 : decode cX12_removes 14 = .ok (.getfield 196, 3) := by decide +kernel
theorem dX12_removes_17 : decode cX12_removes 17 = .ok (.if_icmp .ge 37, 3) := by decide +kernel
theorem dX12_removes_20 : decode cX12_removes 20 = .ok (.aload_n 0, 1) := by decide +kernel
theorem dX12_removes_21 : decode cX12_removes 21 = .ok (.getfield 82, 3) := by decide +kernel
theorem dX12_removes_24 : decode cX12_removes 24 = .ok (.iload_n 2, 1) := by decide +kernel
theorem dX12_removes_25 : decode cX12_removes 25 = .ok (.aload_n 0, 1) := by decide +kernel
theorem dX12_removes_26 : decode cX12_removes 26 = .ok (.getfield 82, 3) := by decide +kernel
theorem dX12_removes_29 : decode cX12_removes 29 = .ok (.iload_n 2, 1) := by decide +kernel
theorem dX12_removes_30 : decode cX12_removes 30 = .ok (.iconst 1, 1) := by decide +kernel
theorem dX12_removes_31 : decode cX12_removes 31 = .ok (.iadd, 1) := by decide +kernel
theorem dX12_removes_32 : decode cX12_removes 32 = .ok (.iaload, 1) := by decide +kernel
theorem dX12_removes_33 : decode cX12_removes 33 = .ok (.iastore, 1) := by decide +kernel
theorem dX12_removes_34 : decode cX12_removes 34 = .ok (.aload_n 0, 1) := by decide +kernel
theorem dX12_removes_35 : decode cX12_removes 35 = .ok (.getfield 85, 3) := by decide +kernel
theorem dX12_removes_38 : decode cX12_removes 38 = .ok (.iload_n 2, 1) := by decide +kernel
theorem dX12_removes_39 : decode cX12_removes 39 = .ok (.aload_n 0, 1) := by decide +kernel
theorem dX12_removes_40 : decode cX12_removes 40 = .ok (.getfield 85, 3) := by decide +kernel
theorem dX12_removes_43 : decode cX12_removes 43 = .ok (.iload_n 2, 1) := by decide +kernel
theorem dX12_removes_44 : decode cX12_removes 44 = .ok (.iconst 1, 1) := by decide +kernel
theorem dX12_removes_45 : decode cX12_removes 45 = .ok (.iadd, 1) := by decide +kernel
theorem dX12_removes_46 : decode cX12_removes 46 = .ok (.iaload, 1) := by decide +kernel
theorem dX12_removes_47 : decode cX12_removes 47 = .ok (.iastore, 1) := by decide +kernel
theorem dX12_removes_48 : decode cX12_removes 48 = .ok (.iinc 2 1, 3) := by decide +kernel
theorem dX12_removes_51 : decode cX12_removes 51 = .ok (.goto (-39), 3) := by decide +kernel
theorem dX12_removes_54 : decode cX12_removes 54 = .ok (.return_, 1) := by decide +kernel
theorem dX12_point_0 : decode cX12_point 0 = .ok (.aload_n 0, 1) := by decide +kernel
theorem dX12_point_1 : decode cX12_point 1 = .ok (.iload_n 1, 1) := by decide +kernel
theorem dX12_point_2 : decode cX12_point 2 = .ok (.invokevirtual 186, 3) := by decide +kernel
theorem dX12_point_5 : decode cX12_point 5 = .ok (.ifCond .eq 25, 3) := by decide +kernel
theorem dX12_point_8 : decode cX12_point 8 = .ok (.aload_n 0, 1) := by decide +kernel
theorem dX12_point_9 : decode cX12_point 9 = .ok (.iload_n 2, 1) := by decide +kernel
theorem dX12_point_10 : decode cX12_point 10 = .ok (.invokevirtual 186, 3) := by decide +kernel
theorem dX12_point_13 : decode cX12_point 13 = .ok (.ifCond .eq 17, 3) := by decide +kernel
theorem dX12_point_16 : decode cX12_point 16 = .ok (.iload_n 1, 1) := by decide +kernel
theorem dX12_point_17 : decode cX12_point 17 = .ok (.iload_n 2, 1) := by decide +kernel
theorem dX12_point_18 : decode cX12_point 18 = .ok (.if_icmp .eq 12, 3) := by decide +kernel
theorem dX12_point_21 : decode cX12_point 21 = .ok (.aload_n 0, 1) := by decide +kernel
theorem dX12_point_22 : decode cX12_point 22 = .ok (.getfield 196, 3) := by decide +kernel
theorem dX12_point_25 : decode cX12_point 25 = .ok (.bipush 20, 2) := by decide +kernel
theorem dX12_point_27 : decode cX12_point 27 = .ok (.if_icmp .ne 5, 3) := by decide +kernel
theorem dX12_point_30 : decode cX12_point 30 = .ok (.iconst (-1), 1) := by decide +kernel
theorem dX12_point_31 : decode cX12_point 31 = .ok (.ireturn, 1) := by decide +kernel
theorem dX12_point_32 : decode cX12_point 32 = .ok (.aload_n 0, 1) := by decide +kernel
theorem dX12_point_33 : decode cX12_point 33 = .ok (.getfield 82, 3) := by decide +kernel
theorem dX12_point_36 : decode cX12_point 36 = .ok (.aload_n 0, 1) := by decide +kernel
theorem dX12_point_37 : decode cX12_point 37 = .ok (.getfield 196, 3) := by decide +kernel
theorem dX12_point_40 : decode cX12_point 40 = .ok (.iload_n 1, 1) := by decide +kernel
theorem dX12_point_41 : decode cX12_point 41 = .ok (.iastore, 1) := by decide +kernel
theorem dX12_point_42 : decode cX12_point 42 = .ok (.aload_n 0, 1) := by decide +kernel
theorem dX12_point_43 : decode cX12_point 43 = .ok (.getfield 85, 3) := by decide +kernel
theorem dX12_point_46 : decode cX12_point 46 = .ok (.aload_n 0, 1) := by decide +kernel
theorem dX12_point_47 : decode cX12_point 47 = .ok (.getfield 196, 3) := by decide +kernel
theorem dX12_point_50 : decode cX12_point 50 = .ok (.iload_n 2, 1) := by decide +kernel
theorem dX12_point_51 : decode cX12_point 51 = .ok (.iastore, 1) := by decide +kernel
theorem dX12_point_52 : decode cX12_point 52 = .ok (.aload_n 0, 1) := by decide +kernel
theorem dX12_point_53 : decode cX12_point 53 = .ok (.aload_n 0, 1) := by decide +kernel
theorem dX12_point_54 : decode cX12_point 54 = .ok (.getfield 196, 3) := by decide +kernel
theorem dX12_point_57 : decode cX12_point 57 = .ok (.iconst 1, 1) := by decide +kernel
theorem dX12_point_58 : decode cX12_point 58 = .ok (.iadd, 1) := by decide +kernel
theorem dX12_point_59 : decode cX12_point 59 = .ok (.putfield 196, 3) := by decide +kernel
theorem dX12_point_62 : decode cX12_point 62 = .ok (.aload_n 0, 1) := by decide +kernel
theorem dX12_point_63 : decode cX12_point 63 = .ok (.getfield 196, 3) := by decide +kernel
theorem dX12_point_66 : decode cX12_point 66 = .ok (.iconst 1, 1) := by decide +kernel
theorem dX12_point_67 : decode cX12_point 67 = .ok (.isub, 1) := by decide +kernel
theorem dX12_point_68 : decode cX12_point 68 = .ok (.ireturn, 1) := by decide +kernel
theorem dX12_lead_0 : decode cX12_lead 0 = .ok (.iload_n 1, 1) := by decide +kernel
theorem dX12_lead_1 : decode cX12_lead 1 = .ok (.ifCond .lt 44, 3) := by decide +kernel
theorem dX12_lead_4 : decode cX12_lead 4 = .ok (.iload_n 1, 1) := by decide +kernel
theorem dX12_lead_5 : decode cX12_lead 5 = .ok (.aload_n 0, 1) := by decide +kernel
theorem dX12_lead_6 : decode cX12_lead 6 = .ok (.getfield 196, 3) := by decide +kernel
theorem dX12_lead_9 : decode cX12_lead 9 = .ok (.if_icmp .ge 36, 3) := by decide +kernel
theorem dX12_lead_12 : decode cX12_lead 12 = .ok (.aload_n 0, 1) := by decide +kernel
theorem dX12_lead_13 : decode cX12_lead 13 = .ok (.getfield 85, 3) := by decide +kernel
theorem dX12_lead_16 : decode cX12_lead 16 = .ok (.iload_n 1, 1) := by decide +kernel
theorem dX12_lead_17 : decode cX12_lead 17 = .ok (.iaload, 1) := by decide +kernel
theorem dX12_lead_18 : decode cX12_lead 18 = .ok (.iconst (-1), 1) := by decide +kernel
theorem dX12_lead_19 : decode cX12_lead 19 = .ok (.if_icmp .ne 26, 3) := by decide +kernel
theorem dX12_lead_22 : decode cX12_lead 22 = .ok (.iload_n 2, 1) := by decide +kernel
theorem dX12_lead_23 : decode cX12_lead 23 = .ok (.iconst (-1), 1) := by decide +kernel
theorem dX12_lead_24 : decode cX12_lead 24 = .ok (.if_icmp .eq 23, 3) := by decide +kernel
theorem dX12_lead_27 : decode cX12_lead 27 = .ok (.aload_n 0, 1) := by decide +kernel
theorem dX12_lead_28 : decode cX12_lead 28 = .ok (.iload_n 2, 1) := by decide +kernel
theorem dX12_lead_29 : decode cX12_lead 29 = .ok (.invokevirtual 186, 3) := by decide +kernel
theorem dX12_lead_32 : decode cX12_lead 32 = .ok (.ifCond .eq 13, 3) := by decide +kernel
theorem dX12_lead_35 : decode cX12_lead 35 = .ok (.iload_n 2, 1) := by decide +kernel
theorem dX12_lead_36 : decode cX12_lead 36 = .ok (.aload_n 0, 1) := by decide +kernel
theorem dX12_lead_37 : decode cX12_lead 37 = .ok (.getfield 82, 3) := by decide +kernel
theorem dX12_lead_40 : decode cX12_lead 40 = .ok (.iload_n 1, 1) := by decide +kernel
theorem dX12_lead_41 : decode cX12_lead 41 = .ok (.iaload, 1) := by decide +kernel
theorem dX12_lead_42 : decode cX12_lead 42 = .ok (.if_icmp .ne 5, 3) := by decide +kernel
theorem dX12_lead_45 : decode cX12_lead 45 = .ok (.iconst 0, 1) := by decide +kernel
theorem dX12_lead_46 : decode cX12_lead 46 = .ok (.ireturn, 1) := by decide +kernel
theorem dX12_lead_47 : decode cX12_lead 47 = .ok (.iload_n 2, 1) := by decide +kernel
theorem dX12_lead_48 : decode cX12_lead 48 = .ok (.iconst (-1), 1) := by decide +kernel
theorem dX12_lead_49 : decode cX12_lead 49 = .ok (.if_icmp .ne 11, 3) := by decide +kernel
theorem dX12_lead_52 : decode cX12_lead 52 = .ok (.aload_n 0, 1) := by decide +kernel
theorem dX12_lead_53 : decode cX12_lead 53 = .ok (.iload_n 1, 1) := by decide +kernel
theorem dX12_lead_54 : decode cX12_lead 54 = .ok (.invokevirtual 199, 3) := by decide +kernel
theorem dX12_lead_57 : decode cX12_lead 57 = .ok (.goto 10, 3) := by decide +kernel
theorem dX12_lead_60 : decode cX12_lead 60 = .ok (.aload_n 0, 1) := by decide +kernel
theorem dX12_lead_61 : decode cX12_lead 61 = .ok (.getfield 85, 3) := by decide +kernel
theorem dX12_lead_64 : decode cX12_lead 64 = .ok (.iload_n 1, 1) := by decide +kernel
theorem dX12_lead_65 : decode cX12_lead 65 = .ok (.iload_n 2, 1) := by decide +kernel
theorem dX12_lead_66 : decode cX12_lead 66 = .ok (.iastore, 1) := by decide +kernel
theorem dX12_lead_67 : decode cX12_lead 67 = .ok (.iconst 1, 1) := by decide +kernel
theorem dX12_lead_68 : decode cX12_lead 68 = .ok (.ireturn, 1) := by decide +kernel
theorem dX12_isWitness_0 : decode cX12_isWitness 0 = .ok (.aload_n 0, 1) := by decide +kernel
theorem dX12_isWitness_1 : decode cX12_isWitness 1 = .ok (.getfield 45, 3) := by decide +kernel
theorem dX12_isWitness_4 : decode cX12_isWitness 4 = .ok (.iload_n 1, 1) := by decide +kernel
theorem dX12_isWitness_5 : decode cX12_isWitness 5 = .ok (.iaload, 1) := by decide +kernel
theorem dX12_isWitness_6 : decode cX12_isWitness 6 = .ok (.iconst (-1), 1) := by decide +kernel
theorem dX12_isWitness_7 : decode cX12_isWitness 7 = .ok (.if_icmp .eq 38, 3) := by decide +kernel
theorem dX12_isWitness_10 : decode cX12_isWitness 10 = .ok (.iload_n 3, 1) := by decide +kernel
theorem dX12_isWitness_11 : decode cX12_isWitness 11 = .ok (.ifCond .eq 16, 3) := by decide +kernel
theorem dX12_isWitness_14 : decode cX12_isWitness 14 = .ok (.aload_n 0, 1) := by decide +kernel
theorem dX12_isWitness_15 : decode cX12_isWitness 15 = .ok (.getfield 45, 3) := by decide +kernel
theorem dX12_isWitness_18 : decode cX12_isWitness 18 = .ok (.iload_n 1, 1) := by decide +kernel
theorem dX12_isWitness_19 : decode cX12_isWitness 19 = .ok (.iaload, 1) := by decide +kernel
theorem dX12_isWitness_20 : decode cX12_isWitness 20 = .ok (.iload_n 2, 1) := by decide +kernel
theorem dX12_isWitness_21 : decode cX12_isWitness 21 = .ok (.if_icmp .ne 24, 3) := by decide +kernel
theorem dX12_isWitness_24 : decode cX12_isWitness 24 = .ok (.goto 17, 3) := by decide +kernel
theorem dX12_isWitness_27 : decode cX12_isWitness 27 = .ok (.aload_n 0, 1) := by decide +kernel
theorem dX12_isWitness_28 : decode cX12_isWitness 28 = .ok (.aload_n 0, 1) := by decide +kernel
theorem dX12_isWitness_29 : decode cX12_isWitness 29 = .ok (.getfield 45, 3) := by decide +kernel
theorem dX12_isWitness_32 : decode cX12_isWitness 32 = .ok (.iload_n 1, 1) := by decide +kernel
theorem dX12_isWitness_33 : decode cX12_isWitness 33 = .ok (.iaload, 1) := by decide +kernel
theorem dX12_isWitness_34 : decode cX12_isWitness 34 = .ok (.iload_n 2, 1) := by decide +kernel
theorem dX12_isWitness_35 : decode cX12_isWitness 35 = .ok (.invokevirtual 193, 3) := by decide +kernel
theorem dX12_isWitness_38 : decode cX12_isWitness 38 = .ok (.ifCond .eq 7, 3) := by decide +kernel
theorem dX12_isWitness_41 : decode cX12_isWitness 41 = .ok (.iconst 1, 1) := by decide +kernel
theorem dX12_isWitness_42 : decode cX12_isWitness 42 = .ok (.goto 4, 3) := by decide +kernel
theorem dX12_isWitness_45 : decode cX12_isWitness 45 = .ok (.iconst 0, 1) := by decide +kernel
theorem dX12_isWitness_46 : decode cX12_isWitness 46 = .ok (.ireturn, 1) := by decide +kernel
theorem dX12_witnesses_0 : decode cX12_witnesses 0 = .ok (.aload_n 0, 1) := by decide +kernel
theorem dX12_witnesses_1 : decode cX12_witnesses 1 = .ok (.iconst 0, 1) := by decide +kernel
theorem dX12_witnesses_2 : decode cX12_witnesses 2 = .ok (.putfield 211, 3) := by decide +kernel
theorem dX12_witnesses_5 : decode cX12_witnesses 5 = .ok (.iconst 0, 1) := by decide +kernel
theorem dX12_witnesses_6 : decode cX12_witnesses 6 = .ok (.istore_n 3, 1) := by decide +kernel
theorem dX12_witnesses_7 : decode cX12_witnesses 7 = .ok (.iload_n 3, 1) := by decide +kernel
theorem dX12_witnesses_8 : decode cX12_witnesses 8 = .ok (.aload_n 0, 1) := by decide +kernel
theorem dX12_witnesses_9 : decode cX12_witnesses 9 = .ok (.getfield 132, 3) := by decide +kernel
theorem dX12_witnesses_12 : decode cX12_witnesses 12 = .ok (.if_icmp .ge 174, 3) := by decide +kernel
theorem dX12_witnesses_15 : decode cX12_witnesses 15 = .ok (.aload_n 0, 1) := by decide +kernel
theorem dX12_witnesses_16 : decode cX12_witnesses 16 = .ok (.iload_n 3, 1) := by decide +kernel
theorem dX12_witnesses_17 : decode cX12_witnesses 17 = .ok (.iload_n 1, 1) := by decide +kernel
theorem dX12_witnesses_18 : decode cX12_witnesses 18 = .ok (.iload_n 2, 1) := by decide +kernel
theorem dX12_witnesses_19 : decode cX12_witnesses 19 = .ok (.invokevirtual 214, 3) := by decide +kernel
theorem dX12_witnesses_22 : decode cX12_witnesses 22 = .ok (.ifCond .ne 6, 3) := by decide +kernel
theorem dX12_witnesses_25 : decode cX12_witnesses 25 = .ok (.goto 155, 3) := by decide +kernel
theorem dX12_witnesses_28 : decode cX12_witnesses 28 = .ok (.aload_n 0, 1) := by decide +kernel
theorem dX12_witnesses_29 : decode cX12_witnesses 29 = .ok (.getfield 23, 3) := by decide +kernel
theorem dX12_witnesses_32 : decode cX12_witnesses 32 = .ok (.aload_n 0, 1) := by decide +kernel
theorem dX12_witnesses_33 : decode cX12_witnesses 33 = .ok (.getfield 39, 3) := by decide +kernel
theorem dX12_witnesses_36 : decode cX12_witnesses 36 = .ok (.iload_n 3, 1) := by decide +kernel
theorem dX12_witnesses_37 : decode cX12_witnesses 37 = .ok (.iaload, 1) := by decide +kernel
theorem dX12_witnesses_38 : decode cX12_witnesses 38 = .ok (.iaload, 1) := by decide +kernel
theorem dX12_witnesses_39 : decode cX12_witnesses 39 = .ok (.istore 4, 2) := by decide +kernel
theorem dX12_witnesses_41 : decode cX12_witnesses 41 = .ok (.aload_n 0, 1) := by decide +kernel
theorem dX12_witnesses_42 : decode cX12_witnesses 42 = .ok (.getfield 26, 3) := by decide +kernel
theorem dX12_witnesses_45 : decode cX12_witnesses 45 = .ok (.aload_n 0, 1) := by decide +kernel
theorem dX12_witnesses_46 : decode cX12_witnesses 46 = .ok (.getfield 39, 3) := by decide +kernel
theorem dX12_witnesses_49 : decode cX12_witnesses 49 = .ok (.iload_n 3, 1) := by decide +kernel
theorem dX12_witnesses_50 : decode cX12_witnesses 50 = .ok (.iaload, 1) := by decide +kernel
theorem dX12_witnesses_51 : decode cX12_witnesses 51 = .ok (.iaload, 1) := by decide +kernel
theorem dX12_witnesses_52 : decode cX12_witnesses 52 = .ok (.istore 5, 2) := by decide +kernel
theorem dX12_witnesses_54 : decode cX12_witnesses 54 = .ok (.aload_n 0, 1) := by decide +kernel
theorem dX12_witnesses_55 : decode cX12_witnesses 55 = .ok (.aload_n 0, 1) := by decide +kernel
theorem dX12_witnesses_56 : decode cX12_witnesses 56 = .ok (.getfield 211, 3) := by decide +kernel
theorem dX12_witnesses_59 : decode cX12_witnesses 59 = .ok (.ifCond .eq 12, 3) := by decide +kernel
theorem dX12_witnesses_62 : decode cX12_witnesses 62 = .ok (.iload 4, 2) := by decide +kernel
theorem dX12_witnesses_64 : decode cX12_witnesses 64 = .ok (.aload_n 0, 1) := by decide +kernel
theorem dX12_witnesses_65 : decode cX12_witnesses 65 = .ok (.getfield 218, 3) := by decide +kernel
theorem dX12_witnesses_68 : decode cX12_witnesses 68 = .ok (.if_icmp .ge 8, 3) := by decide +kernel
theorem dX12_witnesses_71 : decode cX12_witnesses 71 = .ok (.iload 4, 2) := by decide +kernel
theorem dX12_witnesses_73 : decode cX12_witnesses 73 = .ok (.goto 7, 3) := by decide +kernel
theorem dX12_witnesses_76 : decode cX12_witnesses 76 = .ok (.aload_n 0, 1) := by decide +kernel
theorem dX12_witnesses_77 : decode cX12_witnesses 77 = .ok (.getfield 218, 3) := by decide +kernel
theorem dX12_witnesses_80 : decode cX12_witnesses 80 = .ok (.putfield 218, 3) := by decide +kernel
theorem dX12_witnesses_83 : decode cX12_witnesses 83 = .ok (.aload_n 0, 1) := by decide +kernel
theorem dX12_witnesses_84 : decode cX12_witnesses 84 = .ok (.aload_n 0, 1) := by decide +kernel
theorem dX12_witnesses_85 : decode cX12_witnesses 85 = .ok (.getfield 211, 3) := by decide +kernel
theorem dX12_witnesses_88 : decode cX12_witnesses 88 = .ok (.ifCond .eq 12, 3) := by decide +kernel
theorem dX12_witnesses_91 : decode cX12_witnesses 91 = .ok (.iload 5, 2) := by decide +kernel
theorem dX12_witnesses_93 : decode cX12_witnesses 93 = .ok (.aload_n 0, 1) := by decide +kernel
theorem dX12_witnesses_94 : decode cX12_witnesses 94 = .ok (.getfield 221, 3) := by decide +kernel
theorem dX12_witnesses_97 : decode cX12_witnesses 97 = .ok (.if_icmp .ge 8, 3) := by decide +kernel
theorem dX12_witnesses_100 : decode cX12_witnesses 100 = .ok (.iload 5, 2) := by decide +kernel
theorem dX12_witnesses_102 : decode cX12_witnesses 102 = .ok (.goto 7, 3) := by decide +kernel
theorem dX12_witnesses_105 : decode cX12_witnesses 105 = .ok (.aload_n 0, 1) := by decide +kernel
theorem dX12_witnesses_106 : decode cX12_witnesses 106 = .ok (.getfield 221, 3) := by decide +kernel
theorem dX12_witnesses_109 : decode cX12_witnesses 109 = .ok (.putfield 221, 3) := by decide +kernel
theorem dX12_witnesses_112 : decode cX12_witnesses 112 = .ok (.aload_n 0, 1) := by decide +kernel
theorem dX12_witnesses_113 : decode cX12_witnesses 113 = .ok (.aload_n 0, 1) := by decide +kernel
theorem dX12_witnesses_114 : decode cX12_witnesses 114 = .ok (.getfield 211, 3) := by decide +kernel
theorem dX12_witnesses_117 : decode cX12_witnesses 117 = .ok (.ifCond .eq 12, 3) := by decide +kernel
theorem dX12_witnesses_120 : decode cX12_witnesses 120 = .ok (.iload 4, 2) := by decide +kernel
theorem dX12_witnesses_122 : decode cX12_witnesses 122 = .ok (.aload_n 0, 1) := by decide +kernel
theorem dX12_witnesses_123 : decode cX12_witnesses 123 = .ok (.getfield 224, 3) := by decide +kernel
theorem dX12_witnesses_126 : decode cX12_witnesses 126 = .ok (.if_icmp .le 8, 3) := by decide +kernel
theorem dX12_witnesses_129 : decode cX12_witnesses 129 = .ok (.iload 4, 2) := by decide +kernel
theorem dX12_witnesses_131 : decode cX12_witnesses 131 = .ok (.goto 7, 3) := by decide +kernel
theorem dX12_witnesses_134 : decode cX12_witnesses 134 = .ok (.aload_n 0, 1) := by decide +kernel
theorem dX12_witnesses_135 : decode cX12_witnesses 135 = .ok (.getfield 224, 3) := by decide +kernel
theorem dX12_witnesses_138 : decode cX12_witnesses 138 = .ok (.putfield 224, 3) := by decide +kernel
theorem dX12_witnesses_141 : decode cX12_witnesses 141 = .ok (.aload_n 0, 1) := by decide +kernel
theorem dX12_witnesses_142 : decode cX12_witnesses 142 = .ok (.aload_n 0, 1) := by decide +kernel
theorem dX12_witnesses_143 : decode cX12_witnesses 143 = .ok (.getfield 211, 3) := by decide +kernel
theorem dX12_witnesses_146 : decode cX12_witnesses 146 = .ok (.ifCond .eq 12, 3) := by decide +kernel
theorem dX12_witnesses_149 : decode cX12_witnesses 149 = .ok (.iload 5, 2) := by decide +kernel
theorem dX12_witnesses_151 : decode cX12_witnesses 151 = .ok (.aload_n 0, 1) := by decide +kernel
theorem dX12_witnesses_152 : decode cX12_witnesses 152 = .ok (.getfield 227, 3) := by decide +kernel
theorem dX12_witnesses_155 : decode cX12_witnesses 155 = .ok (.if_icmp .le 8, 3) := by decide +kernel
theorem dX12_witnesses_158 : decode cX12_witnesses 158 = .ok (.iload 5, 2) := by decide +kernel
theorem dX12_witnesses_160 : decode cX12_witnesses 160 = .ok (.goto 7, 3) := by decide +kernel
theorem dX12_witnesses_163 : decode cX12_witnesses 163 = .ok (.aload_n 0, 1) := by decide +kernel
theorem dX12_witnesses_164 : decode cX12_witnesses 164 = .ok (.getfield 227, 3) := by decide +kernel
theorem dX12_witnesses_167 : decode cX12_witnesses 167 = .ok (.putfield 227, 3) := by decide +kernel
theorem dX12_witnesses_170 : decode cX12_witnesses 170 = .ok (.aload_n 0, 1) := by decide +kernel
theorem dX12_witnesses_171 : decode cX12_witnesses 171 = .ok (.aload_n 0, 1) := by decide +kernel
theorem dX12_witnesses_172 : decode cX12_witnesses 172 = .ok (.getfield 211, 3) := by decide +kernel
theorem dX12_witnesses_175 : decode cX12_witnesses 175 = .ok (.iconst 1, 1) := by decide +kernel
theorem dX12_witnesses_176 : decode cX12_witnesses 176 = .ok (.iadd, 1) := by decide +kernel
theorem dX12_witnesses_177 : decode cX12_witnesses 177 = .ok (.putfield 211, 3) := by decide +kernel
theorem dX12_witnesses_180 : decode cX12_witnesses 180 = .ok (.iinc 3 1, 3) := by decide +kernel
theorem dX12_witnesses_183 : decode cX12_witnesses 183 = .ok (.goto (-176), 3) := by decide +kernel
theorem dX12_witnesses_186 : decode cX12_witnesses 186 = .ok (.return_, 1) := by decide +kernel
theorem dX12_gap_0 : decode cX12_gap 0 = .ok (.aload_n 0, 1) := by decide +kernel
theorem dX12_gap_1 : decode cX12_gap 1 = .ok (.iload_n 1, 1) := by decide +kernel
theorem dX12_gap_2 : decode cX12_gap 2 = .ok (.iconst 0, 1) := by decide +kernel
theorem dX12_gap_3 : decode cX12_gap 3 = .ok (.invokevirtual 230, 3) := by decide +kernel
theorem dX12_gap_6 : decode cX12_gap 6 = .ok (.iconst 0, 1) := by decide +kernel
theorem dX12_gap_7 : decode cX12_gap 7 = .ok (.istore_n 2, 1) := by decide +kernel
theorem dX12_gap_8 : decode cX12_gap 8 = .ok (.iconst 0, 1) := by decide +kernel
theorem dX12_gap_9 : decode cX12_gap 9 = .ok (.istore_n 3, 1) := by decide +kernel
theorem dX12_gap_10 : decode cX12_gap 10 = .ok (.aload_n 0, 1) := by decide +kernel
theorem dX12_gap_11 : decode cX12_gap 11 = .ok (.getfield 227, 3) := by decide +kernel
theorem dX12_gap_14 : decode cX12_gap 14 = .ok (.istore 4, 2) := by decide +kernel
theorem dX12_gap_16 : decode cX12_gap 16 = .ok (.aload_n 0, 1) := by decide +kernel
theorem dX12_gap_17 : decode cX12_gap 17 = .ok (.getfield 218, 3) := by decide +kernel
theorem dX12_gap_20 : decode cX12_gap 20 = .ok (.istore 5, 2) := by decide +kernel
theorem dX12_gap_22 : decode cX12_gap 22 = .ok (.iload 5, 2) := by decide +kernel
theorem dX12_gap_24 : decode cX12_gap 24 = .ok (.iload 4, 2) := by decide +kernel
theorem dX12_gap_26 : decode cX12_gap 26 = .ok (.if_icmp .gt 107, 3) := by decide +kernel
theorem dX12_gap_29 : decode cX12_gap 29 = .ok (.iconst 0, 1) := by decide +kernel
theorem dX12_gap_30 : decode cX12_gap 30 = .ok (.istore 6, 2) := by decide +kernel
theorem dX12_gap_32 : decode cX12_gap 32 = .ok (.iconst 0, 1) := by decide +kernel
theorem dX12_gap_33 : decode cX12_gap 33 = .ok (.istore 7, 2) := by decide +kernel
theorem dX12_gap_35 : decode cX12_gap 35 = .ok (.iload 7, 2) := by decide +kernel
theorem dX12_gap_37 : decode cX12_gap 37 = .ok (.aload_n 0, 1) := by decide +kernel
theorem dX12_gap_38 : decode cX12_gap 38 = .ok (.getfield 132, 3) := by decide +kernel
theorem dX12_gap_41 : decode cX12_gap 41 = .ok (.if_icmp .ge 66, 3) := by decide +kernel
theorem dX12_gap_44 : decode cX12_gap 44 = .ok (.iload 6, 2) := by decide +kernel
theorem dX12_gap_46 : decode cX12_gap 46 = .ok (.ifCond .ne 48, 3) := by decide +kernel
theorem dX12_gap_49 : decode cX12_gap 49 = .ok (.aload_n 0, 1) := by decide +kernel
theorem dX12_gap_50 : decode cX12_gap 50 = .ok (.iload 7, 2) := by decide +kernel
theorem dX12_gap_52 : decode cX12_gap 52 = .ok (.iload_n 1, 1) := by decide +kernel
theorem dX12_gap_53 : decode cX12_gap 53 = .ok (.iconst 0, 1) := by decide +kernel
theorem dX12_gap_54 : decode cX12_gap 54 = .ok (.invokevirtual 214, 3) := by decide +kernel
theorem dX12_gap_57 : decode cX12_gap 57 = .ok (.ifCond .eq 41, 3) := by decide +kernel
theorem dX12_gap_60 : decode cX12_gap 60 = .ok (.aload_n 0, 1) := by decide +kernel
theorem dX12_gap_61 : decode cX12_gap 61 = .ok (.getfield 23, 3) := by decide +kernel
theorem dX12_gap_64 : decode cX12_gap 64 = .ok (.aload_n 0, 1) := by decide +kernel
theorem dX12_gap_65 : decode cX12_gap 65 = .ok (.getfield 39, 3) := by decide +kernel
theorem dX12_gap_68 : decode cX12_gap 68 = .ok (.iload 7, 2) := by decide +kernel
theorem dX12_gap_70 : decode cX12_gap 70 = .ok (.iaload, 1) := by decide +kernel
theorem dX12_gap_71 : decode cX12_gap 71 = .ok (.iaload, 1) := by decide +kernel
theorem dX12_gap_72 : decode cX12_gap 72 = .ok (.iload 5, 2) := by decide +kernel
theorem dX12_gap_74 : decode cX12_gap 74 = .ok (.if_icmp .gt 24, 3) := by decide +kernel
theorem dX12_gap_77 : decode cX12_gap 77 = .ok (.aload_n 0, 1) := by decide +kernel
theorem dX12_gap_78 : decode cX12_gap 78 = .ok (.getfield 26, 3) := by decide +kernel
theorem dX12_gap_81 : decode cX12_gap 81 = .ok (.aload_n 0, 1) := by decide +kernel
theorem dX12_gap_82 : decode cX12_gap 82 = .ok (.getfield 39, 3) := by decide +kernel
theorem dX12_gap_85 : decode cX12_gap 85 = .ok (.iload 7, 2) := by decide +kernel
theorem dX12_gap_87 : decode cX12_gap 87 = .ok (.iaload, 1) := by decide +kernel
theorem dX12_gap_88 : decode cX12_gap 88 = .ok (.iaload, 1) := by decide +kernel
theorem dX12_gap_89 : decode cX12_gap 89 = .ok (.iload 5, 2) := by decide +kernel
theorem dX12_gap_91 : decode cX12_gap 91 = .ok (.if_icmp .lt 7, 3) := by decide +kernel
theorem dX12_gap_94 : decode cX12_gap 94 = .ok (.iconst 1, 1) := by decide +kernel
theorem dX12_gap_95 : decode cX12_gap 95 = .ok (.goto 4, 3) := by decide +kernel
theorem dX12_gap_98 : decode cX12_gap 98 = .ok (.iconst 0, 1) := by decide +kernel
theorem dX12_gap_99 : decode cX12_gap 99 = .ok (.istore 6, 2) := by decide +kernel
theorem dX12_gap_101 : decode cX12_gap 101 = .ok (.iinc 7 1, 3) := by decide +kernel
theorem dX12_gap_104 : decode cX12_gap 104 = .ok (.goto (-69), 3) := by decide +kernel
theorem dX12_gap_107 : decode cX12_gap 107 = .ok (.iload 6, 2) := by decide +kernel
theorem dX12_gap_109 : decode cX12_gap 109 = .ok (.ifCond .eq 7, 3) := by decide +kernel
theorem dX12_gap_112 : decode cX12_gap 112 = .ok (.iconst 0, 1) := by decide +kernel
theorem dX12_gap_113 : decode cX12_gap 113 = .ok (.goto 6, 3) := by decide +kernel
theorem dX12_gap_116 : decode cX12_gap 116 = .ok (.iload_n 3, 1) := by decide +kernel
theorem dX12_gap_117 : decode cX12_gap 117 = .ok (.iconst 1, 1) := by decide +kernel
theorem dX12_gap_118 : decode cX12_gap 118 = .ok (.iadd, 1) := by decide +kernel
theorem dX12_gap_119 : decode cX12_gap 119 = .ok (.istore_n 3, 1) := by decide +kernel
theorem dX12_gap_120 : decode cX12_gap 120 = .ok (.iload_n 3, 1) := by decide +kernel
theorem dX12_gap_121 : decode cX12_gap 121 = .ok (.iload_n 2, 1) := by decide +kernel
theorem dX12_gap_122 : decode cX12_gap 122 = .ok (.if_icmp .le 5, 3) := by decide +kernel
theorem dX12_gap_125 : decode cX12_gap 125 = .ok (.iload_n 3, 1) := by decide +kernel
theorem dX12_gap_126 : decode cX12_gap 126 = .ok (.istore_n 2, 1) := by decide +kernel
theorem dX12_gap_127 : decode cX12_gap 127 = .ok (.iinc 5 1, 3) := by decide +kernel
theorem dX12_gap_130 : decode cX12_gap 130 = .ok (.goto (-108), 3) := by decide +kernel
theorem dX12_gap_133 : decode cX12_gap 133 = .ok (.iload_n 2, 1) := by decide +kernel
theorem dX12_gap_134 : decode cX12_gap 134 = .ok (.ireturn, 1) := by decide +kernel
theorem dX12_isAhead_0 : decode cX12_isAhead 0 = .ok (.aload_n 0, 1) := by decide +kernel
theorem dX12_isAhead_1 : decode cX12_isAhead 1 = .ok (.iload_n 1, 1) := by decide +kernel
theorem dX12_isAhead_2 : decode cX12_isAhead 2 = .ok (.iconst 0, 1) := by decide +kernel
theorem dX12_isAhead_3 : decode cX12_isAhead 3 = .ok (.invokevirtual 230, 3) := by decide +kernel
theorem dX12_isAhead_6 : decode cX12_isAhead 6 = .ok (.aload_n 0, 1) := by decide +kernel
theorem dX12_isAhead_7 : decode cX12_isAhead 7 = .ok (.getfield 211, 3) := by decide +kernel
theorem dX12_isAhead_10 : decode cX12_isAhead 10 = .ok (.istore_n 3, 1) := by decide +kernel
theorem dX12_isAhead_11 : decode cX12_isAhead 11 = .ok (.aload_n 0, 1) := by decide +kernel
theorem dX12_isAhead_12 : decode cX12_isAhead 12 = .ok (.getfield 218, 3) := by decide +kernel
theorem dX12_isAhead_15 : decode cX12_isAhead 15 = .ok (.istore 4, 2) := by decide +kernel
theorem dX12_isAhead_17 : decode cX12_isAhead 17 = .ok (.aload_n 0, 1) := by decide +kernel
theorem dX12_isAhead_18 : decode cX12_isAhead 18 = .ok (.getfield 221, 3) := by decide +kernel
theorem dX12_isAhead_21 : decode cX12_isAhead 21 = .ok (.istore 5, 2) := by decide +kernel
theorem dX12_isAhead_23 : decode cX12_isAhead 23 = .ok (.aload_n 0, 1) := by decide +kernel
theorem dX12_isAhead_24 : decode cX12_isAhead 24 = .ok (.iload_n 2, 1) := by decide +kernel
theorem dX12_isAhead_25 : decode cX12_isAhead 25 = .ok (.iconst 0, 1) := by decide +kernel
theorem dX12_isAhead_26 : decode cX12_isAhead 26 = .ok (.invokevirtual 230, 3) := by decide +kernel
theorem dX12_isAhead_29 : decode cX12_isAhead 29 = .ok (.iload_n 3, 1) := by decide +kernel
theorem dX12_isAhead_30 : decode cX12_isAhead 30 = .ok (.ifCond .eq 10, 3) := by decide +kernel
theorem dX12_isAhead_33 : decode cX12_isAhead 33 = .ok (.aload_n 0, 1) := by decide +kernel
theorem dX12_isAhead_34 : decode cX12_isAhead 34 = .ok (.getfield 211, 3) := by decide +kernel
theorem dX12_isAhead_37 : decode cX12_isAhead 37 = .ok (.ifCond .ne 25, 3) := by decide +kernel
theorem dX12_isAhead_40 : decode cX12_isAhead 40 = .ok (.iload_n 3, 1) := by decide +kernel
theorem dX12_isAhead_41 : decode cX12_isAhead 41 = .ok (.ifCond .gt 15, 3) := by decide +kernel
theorem dX12_isAhead_44 : decode cX12_isAhead 44 = .ok (.aload_n 0, 1) := by decide +kernel
theorem dX12_isAhead_45 : decode cX12_isAhead 45 = .ok (.getfield 211, 3) := by decide +kernel
theorem dX12_isAhead_48 : decode cX12_isAhead 48 = .ok (.ifCond .ne 12, 3) := by decide +kernel
theorem dX12_isAhead_51 : decode cX12_isAhead 51 = .ok (.iload_n 1, 1) := by decide +kernel
theorem dX12_isAhead_52 : decode cX12_isAhead 52 = .ok (.iload_n 2, 1) := by decide +kernel
theorem dX12_isAhead_53 : decode cX12_isAhead 53 = .ok (.if_icmp .ge 7, 3) := by decide +kernel
theorem dX12_isAhead_56 : decode cX12_isAhead 56 = .ok (.iconst 1, 1) := by decide +kernel
theorem dX12_isAhead_57 : decode cX12_isAhead 57 = .ok (.goto 4, 3) := by decide +kernel
theorem dX12_isAhead_60 : decode cX12_isAhead 60 = .ok (.iconst 0, 1) := by decide +kernel
theorem dX12_isAhead_61 : decode cX12_isAhead 61 = .ok (.ireturn, 1) := by decide +kernel
theorem dX12_isAhead_62 : decode cX12_isAhead 62 = .ok (.iload 4, 2) := by decide +kernel
theorem dX12_isAhead_64 : decode cX12_isAhead 64 = .ok (.aload_n 0, 1) := by decide +kernel
theorem dX12_isAhead_65 : decode cX12_isAhead 65 = .ok (.getfield 218, 3) := by decide +kernel
theorem dX12_isAhead_68 : decode cX12_isAhead 68 = .ok (.if_icmp .eq 18, 3) := by decide +kernel
theorem dX12_isAhead_71 : decode cX12_isAhead 71 = .ok (.iload 4, 2) := by decide +kernel
theorem dX12_isAhead_73 : decode cX12_isAhead 73 = .ok (.aload_n 0, 1) := by decide +kernel
theorem dX12_isAhead_74 : decode cX12_isAhead 74 = .ok (.getfield 218, 3) := by decide +kernel
theorem dX12_isAhead_77 : decode cX12_isAhead 77 = .ok (.if_icmp .ge 7, 3) := by decide +kernel
theorem dX12_isAhead_80 : decode cX12_isAhead 80 = .ok (.iconst 1, 1) := by decide +kernel
theorem dX12_isAhead_81 : decode cX12_isAhead 81 = .ok (.goto 4, 3) := by decide +kernel
theorem dX12_isAhead_84 : decode cX12_isAhead 84 = .ok (.iconst 0, 1) := by decide +kernel
theorem dX12_isAhead_85 : decode cX12_isAhead 85 = .ok (.ireturn, 1) := by decide +kernel
theorem dX12_isAhead_86 : decode cX12_isAhead 86 = .ok (.iload 5, 2) := by decide +kernel
theorem dX12_isAhead_88 : decode cX12_isAhead 88 = .ok (.aload_n 0, 1) := by decide +kernel
theorem dX12_isAhead_89 : decode cX12_isAhead 89 = .ok (.getfield 221, 3) := by decide +kernel
theorem dX12_isAhead_92 : decode cX12_isAhead 92 = .ok (.if_icmp .eq 20, 3) := by decide +kernel
theorem dX12_isAhead_95 : decode cX12_isAhead 95 = .ok (.iload 5, 2) := by decide +kernel
theorem dX12_isAhead_97 : decode cX12_isAhead 97 = .ok (.aload_n 0, 1) := by decide +kernel
theorem dX12_isAhead_98 : decode cX12_isAhead 98 = .ok (.getfield 221, 3) := by decide +kernel
theorem dX12_isAhead_101 : decode cX12_isAhead 101 = .ok (.if_icmp .ge 7, 3) := by decide +kernel
theorem dX12_isAhead_104 : decode cX12_isAhead 104 = .ok (.iconst 1, 1) := by decide +kernel
theorem dX12_isAhead_105 : decode cX12_isAhead 105 = .ok (.goto 17, 3) := by decide +kernel
theorem dX12_isAhead_108 : decode cX12_isAhead 108 = .ok (.iconst 0, 1) := by decide +kernel
theorem dX12_isAhead_109 : decode cX12_isAhead 109 = .ok (.goto 13, 3) := by decide +kernel
theorem dX12_isAhead_112 : decode cX12_isAhead 112 = .ok (.iload_n 1, 1) := by decide +kernel
theorem dX12_isAhead_113 : decode cX12_isAhead 113 = .ok (.iload_n 2, 1) := by decide +kernel
theorem dX12_isAhead_114 : decode cX12_isAhead 114 = .ok (.if_icmp .ge 7, 3) := by decide +kernel
theorem dX12_isAhead_117 : decode cX12_isAhead 117 = .ok (.iconst 1, 1) := by decide +kernel
theorem dX12_isAhead_118 : decode cX12_isAhead 118 = .ok (.goto 4, 3) := by decide +kernel
theorem dX12_isAhead_121 : decode cX12_isAhead 121 = .ok (.iconst 0, 1) := by decide +kernel
theorem dX12_isAhead_122 : decode cX12_isAhead 122 = .ok (.ireturn, 1) := by decide +kernel
theorem dX12_place_0 : decode cX12_place 0 = .ok (.iconst 1, 1) := by decide +kernel
theorem dX12_place_1 : decode cX12_place 1 = .ok (.istore_n 2, 1) := by decide +kernel
theorem dX12_place_2 : decode cX12_place 2 = .ok (.iconst 0, 1) := by decide +kernel
theorem dX12_place_3 : decode cX12_place 3 = .ok (.istore_n 3, 1) := by decide +kernel
theorem dX12_place_4 : decode cX12_place 4 = .ok (.iload_n 3, 1) := by decide +kernel
theorem dX12_place_5 : decode cX12_place 5 = .ok (.bipush 40, 2) := by decide +kernel
theorem dX12_place_7 : decode cX12_place 7 = .ok (.if_icmp .ge 66, 3) := by decide +kernel
theorem dX12_place_10 : decode cX12_place 10 = .ok (.iload_n 3, 1) := by decide +kernel
theorem dX12_place_11 : decode cX12_place 11 = .ok (.iload_n 1, 1) := by decide +kernel
theorem dX12_place_12 : decode cX12_place 12 = .ok (.if_icmp .eq 55, 3) := by decide +kernel
theorem dX12_place_15 : decode cX12_place 15 = .ok (.aload_n 0, 1) := by decide +kernel
theorem dX12_place_16 : decode cX12_place 16 = .ok (.getfield 73, 3) := by decide +kernel
theorem dX12_place_19 : decode cX12_place 19 = .ok (.iload_n 3, 1) := by decide +kernel
theorem dX12_place_20 : decode cX12_place 20 = .ok (.baload, 1) := by decide +kernel
theorem dX12_place_21 : decode cX12_place 21 = .ok (.ifCond .eq 46, 3) := by decide +kernel
theorem dX12_place_24 : decode cX12_place 24 = .ok (.aload_n 0, 1) := by decide +kernel
theorem dX12_place_25 : decode cX12_place 25 = .ok (.getfield 76, 3) := by decide +kernel
theorem dX12_place_28 : decode cX12_place 28 = .ok (.iload_n 3, 1) := by decide +kernel
theorem dX12_place_29 : decode cX12_place 29 = .ok (.iaload, 1) := by decide +kernel
theorem dX12_place_30 : decode cX12_place 30 = .ok (.aload_n 0, 1) := by decide +kernel
theorem dX12_place_31 : decode cX12_place 31 = .ok (.getfield 76, 3) := by decide +kernel
theorem dX12_place_34 : decode cX12_place 34 = .ok (.iload_n 1, 1) := by decide +kernel
theorem dX12_place_35 : decode cX12_place 35 = .ok (.iaload, 1) := by decide +kernel
theorem dX12_place_36 : decode cX12_place 36 = .ok (.if_icmp .ne 31, 3) := by decide +kernel
theorem dX12_place_39 : decode cX12_place 39 = .ok (.aload_n 0, 1) := by decide +kernel
theorem dX12_place_40 : decode cX12_place 40 = .ok (.getfield 79, 3) := by decide +kernel
theorem dX12_place_43 : decode cX12_place 43 = .ok (.iload_n 3, 1) := by decide +kernel
theorem dX12_place_44 : decode cX12_place 44 = .ok (.iaload, 1) := by decide +kernel
theorem dX12_place_45 : decode cX12_place 45 = .ok (.aload_n 0, 1) := by decide +kernel
theorem dX12_place_46 : decode cX12_place 46 = .ok (.getfield 79, 3) := by decide +kernel
theorem dX12_place_49 : decode cX12_place 49 = .ok (.iload_n 1, 1) := by decide +kernel
theorem dX12_place_50 : decode cX12_place 50 = .ok (.iaload, 1) := by decide +kernel
theorem dX12_place_51 : decode cX12_place 51 = .ok (.if_icmp .ne 16, 3) := by decide +kernel
theorem dX12_place_54 : decode cX12_place 54 = .ok (.aload_n 0, 1) := by decide +kernel
theorem dX12_place_55 : decode cX12_place 55 = .ok (.iload_n 3, 1) := by decide +kernel
theorem dX12_place_56 : decode cX12_place 56 = .ok (.iload_n 1, 1) := by decide +kernel
theorem dX12_place_57 : decode cX12_place 57 = .ok (.invokevirtual 234, 3) := by decide +kernel
theorem dX12_place_60 : decode cX12_place 60 = .ok (.ifCond .eq 7, 3) := by decide +kernel
theorem dX12_place_63 : decode cX12_place 63 = .ok (.iload_n 2, 1) := by decide +kernel
theorem dX12_place_64 : decode cX12_place 64 = .ok (.iconst 1, 1) := by decide +kernel
theorem dX12_place_65 : decode cX12_place 65 = .ok (.iadd, 1) := by decide +kernel
theorem dX12_place_66 : decode cX12_place 66 = .ok (.istore_n 2, 1) := by decide +kernel
theorem dX12_place_67 : decode cX12_place 67 = .ok (.iinc 3 1, 3) := by decide +kernel
theorem dX12_place_70 : decode cX12_place 70 = .ok (.goto (-66), 3) := by decide +kernel
theorem dX12_place_73 : decode cX12_place 73 = .ok (.iload_n 2, 1) := by decide +kernel
theorem dX12_place_74 : decode cX12_place 74 = .ok (.ireturn, 1) := by decide +kernel
theorem dX12_depth_0 : decode cX12_depth 0 = .ok (.iconst 0, 1) := by decide +kernel
theorem dX12_depth_1 : decode cX12_depth 1 = .ok (.istore_n 2, 1) := by decide +kernel
theorem dX12_depth_2 : decode cX12_depth 2 = .ok (.iload_n 1, 1) := by decide +kernel
theorem dX12_depth_3 : decode cX12_depth 3 = .ok (.istore_n 3, 1) := by decide +kernel
theorem dX12_depth_4 : decode cX12_depth 4 = .ok (.iload_n 3, 1) := by decide +kernel
theorem dX12_depth_5 : decode cX12_depth 5 = .ok (.iconst (-1), 1) := by decide +kernel
theorem dX12_depth_6 : decode cX12_depth 6 = .ok (.if_icmp .eq 17, 3) := by decide +kernel
theorem dX12_depth_9 : decode cX12_depth 9 = .ok (.iload_n 2, 1) := by decide +kernel
theorem dX12_depth_10 : decode cX12_depth 10 = .ok (.iconst 1, 1) := by decide +kernel
theorem dX12_depth_11 : decode cX12_depth 11 = .ok (.iadd, 1) := by decide +kernel
theorem dX12_depth_12 : decode cX12_depth 12 = .ok (.istore_n 2, 1) := by decide +kernel
theorem dX12_depth_13 : decode cX12_depth 13 = .ok (.aload_n 0, 1) := by decide +kernel
theorem dX12_depth_14 : decode cX12_depth 14 = .ok (.getfield 79, 3) := by decide +kernel
theorem dX12_depth_17 : decode cX12_depth 17 = .ok (.iload_n 3, 1) := by decide +kernel
theorem dX12_depth_18 : decode cX12_depth 18 = .ok (.iaload, 1) := by decide +kernel
theorem dX12_depth_19 : decode cX12_depth 19 = .ok (.istore_n 3, 1) := by decide +kernel
theorem dX12_depth_20 : decode cX12_depth 20 = .ok (.goto (-16), 3) := by decide +kernel
theorem dX12_depth_23 : decode cX12_depth 23 = .ok (.iload_n 2, 1) := by decide +kernel
theorem dX12_depth_24 : decode cX12_depth 24 = .ok (.ireturn, 1) := by decide +kernel
theorem dX12_told_0 : decode cX12_told 0 = .ok (.aload_n 0, 1) := by decide +kernel
theorem dX12_told_1 : decode cX12_told 1 = .ok (.iload_n 1, 1) := by decide +kernel
theorem dX12_told_2 : decode cX12_told 2 = .ok (.invokevirtual 186, 3) := by decide +kernel
theorem dX12_told_5 : decode cX12_told 5 = .ok (.ifCond .ne 5, 3) := by decide +kernel
theorem dX12_told_8 : decode cX12_told 8 = .ok (.iconst (-1), 1) := by decide +kernel
theorem dX12_told_9 : decode cX12_told 9 = .ok (.ireturn, 1) := by decide +kernel
theorem dX12_told_10 : decode cX12_told 10 = .ok (.aload_n 0, 1) := by decide +kernel
theorem dX12_told_11 : decode cX12_told 11 = .ok (.iload_n 1, 1) := by decide +kernel
theorem dX12_told_12 : decode cX12_told 12 = .ok (.iconst 0, 1) := by decide +kernel
theorem dX12_told_13 : decode cX12_told 13 = .ok (.invokevirtual 230, 3) := by decide +kernel
theorem dX12_told_16 : decode cX12_told 16 = .ok (.iload_n 2, 1) := by decide +kernel
theorem dX12_told_17 : decode cX12_told 17 = .ok (.tableswitch 187 0 11 #[63, 70, 77, 83, 88, 104, 120, 136, 152, 169, 175, 181], 63) := by decide +kernel
theorem dX12_told_80 : decode cX12_told 80 = .ok (.aload_n 0, 1) := by decide +kernel
theorem dX12_told_81 : decode cX12_told 81 = .ok (.getfield 76, 3) := by decide +kernel
theorem dX12_told_84 : decode cX12_told 84 = .ok (.iload_n 1, 1) := by decide +kernel
theorem dX12_told_85 : decode cX12_told 85 = .ok (.iaload, 1) := by decide +kernel
theorem dX12_told_86 : decode cX12_told 86 = .ok (.ireturn, 1) := by decide +kernel
theorem dX12_told_87 : decode cX12_told 87 = .ok (.aload_n 0, 1) := by decide +kernel
theorem dX12_told_88 : decode cX12_told 88 = .ok (.getfield 79, 3) := by decide +kernel
theorem dX12_told_91 : decode cX12_told 91 = .ok (.iload_n 1, 1) := by decide +kernel
theorem dX12_told_92 : decode cX12_told 92 = .ok (.iaload, 1) := by decide +kernel
theorem dX12_told_93 : decode cX12_told 93 = .ok (.ireturn, 1) := by decide +kernel
theorem dX12_told_94 : decode cX12_told 94 = .ok (.aload_n 0, 1) := by decide +kernel
theorem dX12_told_95 : decode cX12_told 95 = .ok (.iload_n 1, 1) := by decide +kernel
theorem dX12_told_96 : decode cX12_told 96 = .ok (.invokevirtual 205, 3) := by decide +kernel
theorem dX12_told_99 : decode cX12_told 99 = .ok (.ireturn, 1) := by decide +kernel
theorem dX12_told_100 : decode cX12_told 100 = .ok (.aload_n 0, 1) := by decide +kernel
theorem dX12_told_101 : decode cX12_told 101 = .ok (.getfield 211, 3) := by decide +kernel
theorem dX12_told_104 : decode cX12_told 104 = .ok (.ireturn, 1) := by decide +kernel
theorem dX12_told_105 : decode cX12_told 105 = .ok (.aload_n 0, 1) := by decide +kernel
theorem dX12_told_106 : decode cX12_told 106 = .ok (.getfield 211, 3) := by decide +kernel
theorem dX12_told_109 : decode cX12_told 109 = .ok (.ifCond .ne 7, 3) := by decide +kernel
theorem dX12_told_112 : decode cX12_told 112 = .ok (.iconst (-1), 1) := by decide +kernel
theorem dX12_told_113 : decode cX12_told 113 = .ok (.goto 7, 3) := by decide +kernel
theorem dX12_told_116 : decode cX12_told 116 = .ok (.aload_n 0, 1) := by decide +kernel
theorem dX12_told_117 : decode cX12_told 117 = .ok (.getfield 218, 3) := by decide +kernel
theorem dX12_told_120 : decode cX12_told 120 = .ok (.ireturn, 1) := by decide +kernel
theorem dX12_told_121 : decode cX12_told 121 = .ok (.aload_n 0, 1) := by decide +kernel
theorem dX12_told_122 : decode cX12_told 122 = .ok (.getfield 211, 3) := by decide +kernel
theorem dX12_told_125 : decode cX12_told 125 = .ok (.ifCond .ne 7, 3) := by decide +kernel
theorem dX12_told_128 : decode cX12_told 128 = .ok (.iconst (-1), 1) := by decide +kernel
theorem dX12_told_129 : decode cX12_told 129 = .ok (.goto 7, 3) := by decide +kernel
theorem dX12_told_132 : decode cX12_told 132 = .ok (.aload_n 0, 1) := by decide +kernel
theorem dX12_told_133 : decode cX12_told 133 = .ok (.getfield 221, 3) := by decide +kernel
theorem dX12_told_136 : decode cX12_told 136 = .ok (.ireturn, 1) := by decide +kernel
theorem dX12_told_137 : decode cX12_told 137 = .ok (.aload_n 0, 1) := by decide +kernel
theorem dX12_told_138 : decode cX12_told 138 = .ok (.getfield 211, 3) := by decide +kernel
theorem dX12_told_141 : decode cX12_told 141 = .ok (.ifCond .ne 7, 3) := by decide +kernel
theorem dX12_told_144 : decode cX12_told 144 = .ok (.iconst (-1), 1) := by decide +kernel
theorem dX12_told_145 : decode cX12_told 145 = .ok (.goto 7, 3) := by decide +kernel
theorem dX12_told_148 : decode cX12_told 148 = .ok (.aload_n 0, 1) := by decide +kernel
theorem dX12_told_149 : decode cX12_told 149 = .ok (.getfield 224, 3) := by decide +kernel
theorem dX12_told_152 : decode cX12_told 152 = .ok (.ireturn, 1) := by decide +kernel
theorem dX12_told_153 : decode cX12_told 153 = .ok (.aload_n 0, 1) := by decide +kernel
theorem dX12_told_154 : decode cX12_told 154 = .ok (.getfield 211, 3) := by decide +kernel
theorem dX12_told_157 : decode cX12_told 157 = .ok (.ifCond .ne 7, 3) := by decide +kernel
theorem dX12_told_160 : decode cX12_told 160 = .ok (.iconst (-1), 1) := by decide +kernel
theorem dX12_told_161 : decode cX12_told 161 = .ok (.goto 7, 3) := by decide +kernel
theorem dX12_told_164 : decode cX12_told 164 = .ok (.aload_n 0, 1) := by decide +kernel
theorem dX12_told_165 : decode cX12_told 165 = .ok (.getfield 227, 3) := by decide +kernel
theorem dX12_told_168 : decode cX12_told 168 = .ok (.ireturn, 1) := by decide +kernel
theorem dX12_told_169 : decode cX12_told 169 = .ok (.aload_n 0, 1) := by decide +kernel
theorem dX12_told_170 : decode cX12_told 170 = .ok (.getfield 211, 3) := by decide +kernel
theorem dX12_told_173 : decode cX12_told 173 = .ok (.ifCond .ne 7, 3) := by decide +kernel
theorem dX12_told_176 : decode cX12_told 176 = .ok (.iconst (-1), 1) := by decide +kernel
theorem dX12_told_177 : decode cX12_told 177 = .ok (.goto 8, 3) := by decide +kernel
theorem dX12_told_180 : decode cX12_told 180 = .ok (.aload_n 0, 1) := by decide +kernel
theorem dX12_told_181 : decode cX12_told 181 = .ok (.iload_n 1, 1) := by decide +kernel
theorem dX12_told_182 : decode cX12_told 182 = .ok (.invokevirtual 237, 3) := by decide +kernel
theorem dX12_told_185 : decode cX12_told 185 = .ok (.ireturn, 1) := by decide +kernel
theorem dX12_told_186 : decode cX12_told 186 = .ok (.aload_n 0, 1) := by decide +kernel
theorem dX12_told_187 : decode cX12_told 187 = .ok (.iload_n 1, 1) := by decide +kernel
theorem dX12_told_188 : decode cX12_told 188 = .ok (.invokevirtual 240, 3) := by decide +kernel
theorem dX12_told_191 : decode cX12_told 191 = .ok (.ireturn, 1) := by decide +kernel
theorem dX12_told_192 : decode cX12_told 192 = .ok (.aload_n 0, 1) := by decide +kernel
theorem dX12_told_193 : decode cX12_told 193 = .ok (.iload_n 1, 1) := by decide +kernel
theorem dX12_told_194 : decode cX12_told 194 = .ok (.invokevirtual 208, 3) := by decide +kernel
theorem dX12_told_197 : decode cX12_told 197 = .ok (.ireturn, 1) := by decide +kernel
theorem dX12_told_198 : decode cX12_told 198 = .ok (.aload_n 0, 1) := by decide +kernel
theorem dX12_told_199 : decode cX12_told 199 = .ok (.iload_n 1, 1) := by decide +kernel
theorem dX12_told_200 : decode cX12_told 200 = .ok (.invokevirtual 243, 3) := by decide +kernel
theorem dX12_told_203 : decode cX12_told 203 = .ok (.ireturn, 1) := by decide +kernel
theorem dX12_told_204 : decode cX12_told 204 = .ok (.iconst (-1), 1) := by decide +kernel
theorem dX12_told_205 : decode cX12_told 205 = .ok (.ireturn, 1) := by decide +kernel
theorem dX12_isOlder_0 : decode cX12_isOlder 0 = .ok (.aload_n 0, 1) := by decide +kernel
theorem dX12_isOlder_1 : decode cX12_isOlder 1 = .ok (.iload_n 1, 1) := by decide +kernel
theorem dX12_isOlder_2 : decode cX12_isOlder 2 = .ok (.iload_n 3, 1) := by decide +kernel
theorem dX12_isOlder_3 : decode cX12_isOlder 3 = .ok (.invokevirtual 230, 3) := by decide +kernel
theorem dX12_isOlder_6 : decode cX12_isOlder 6 = .ok (.aload_n 0, 1) := by decide +kernel
theorem dX12_isOlder_7 : decode cX12_isOlder 7 = .ok (.getfield 211, 3) := by decide +kernel
theorem dX12_isOlder_10 : decode cX12_isOlder 10 = .ok (.istore 4, 2) := by decide +kernel
theorem dX12_isOlder_12 : decode cX12_isOlder 12 = .ok (.aload_n 0, 1) := by decide +kernel
theorem dX12_isOlder_13 : decode cX12_isOlder 13 = .ok (.getfield 221, 3) := by decide +kernel
theorem dX12_isOlder_16 : decode cX12_isOlder 16 = .ok (.istore 5, 2) := by decide +kernel
theorem dX12_isOlder_18 : decode cX12_isOlder 18 = .ok (.aload_n 0, 1) := by decide +kernel
theorem dX12_isOlder_19 : decode cX12_isOlder 19 = .ok (.iload_n 2, 1) := by decide +kernel
theorem dX12_isOlder_20 : decode cX12_isOlder 20 = .ok (.iload_n 3, 1) := by decide +kernel
theorem dX12_isOlder_21 : decode cX12_isOlder 21 = .ok (.invokevirtual 230, 3) := by decide +kernel
theorem dX12_isOlder_24 : decode cX12_isOlder 24 = .ok (.iload 4, 2) := by decide +kernel
theorem dX12_isOlder_26 : decode cX12_isOlder 26 = .ok (.ifCond .le 33, 3) := by decide +kernel
theorem dX12_isOlder_29 : decode cX12_isOlder 29 = .ok (.aload_n 0, 1) := by decide +kernel
theorem dX12_isOlder_30 : decode cX12_isOlder 30 = .ok (.getfield 211, 3) := by decide +kernel
theorem dX12_isOlder_33 : decode cX12_isOlder 33 = .ok (.ifCond .le 26, 3) := by decide +kernel
theorem dX12_isOlder_36 : decode cX12_isOlder 36 = .ok (.iload 5, 2) := by decide +kernel
theorem dX12_isOlder_38 : decode cX12_isOlder 38 = .ok (.aload_n 0, 1) := by decide +kernel
theorem dX12_isOlder_39 : decode cX12_isOlder 39 = .ok (.getfield 218, 3) := by decide +kernel
theorem dX12_isOlder_42 : decode cX12_isOlder 42 = .ok (.if_icmp .lt 13, 3) := by decide +kernel
theorem dX12_isOlder_45 : decode cX12_isOlder 45 = .ok (.aload_n 0, 1) := by decide +kernel
theorem dX12_isOlder_46 : decode cX12_isOlder 46 = .ok (.iload_n 1, 1) := by decide +kernel
theorem dX12_isOlder_47 : decode cX12_isOlder 47 = .ok (.iload_n 2, 1) := by decide +kernel
theorem dX12_isOlder_48 : decode cX12_isOlder 48 = .ok (.iload_n 3, 1) := by decide +kernel
theorem dX12_isOlder_49 : decode cX12_isOlder 49 = .ok (.invokevirtual 246, 3) := by decide +kernel
theorem dX12_isOlder_52 : decode cX12_isOlder 52 = .ok (.ifCond .eq 7, 3) := by decide +kernel
theorem dX12_isOlder_55 : decode cX12_isOlder 55 = .ok (.iconst 1, 1) := by decide +kernel
theorem dX12_isOlder_56 : decode cX12_isOlder 56 = .ok (.goto 4, 3) := by decide +kernel
theorem dX12_isOlder_59 : decode cX12_isOlder 59 = .ok (.iconst 0, 1) := by decide +kernel
theorem dX12_isOlder_60 : decode cX12_isOlder 60 = .ok (.ireturn, 1) := by decide +kernel
theorem dX12_isAheadOfAll_0 : decode cX12_isAheadOfAll 0 = .ok (.iconst 0, 1) := by decide +kernel
theorem dX12_isAheadOfAll_1 : decode cX12_isAheadOfAll 1 = .ok (.istore 4, 2) := by decide +kernel
theorem dX12_isAheadOfAll_3 : decode cX12_isAheadOfAll 3 = .ok (.iload 4, 2) := by decide +kernel
theorem dX12_isAheadOfAll_5 : decode cX12_isAheadOfAll 5 = .ok (.aload_n 0, 1) := by decide +kernel
theorem dX12_isAheadOfAll_6 : decode cX12_isAheadOfAll 6 = .ok (.getfield 132, 3) := by decide +kernel
theorem dX12_isAheadOfAll_9 : decode cX12_isAheadOfAll 9 = .ok (.if_icmp .ge 100, 3) := by decide +kernel
theorem dX12_isAheadOfAll_12 : decode cX12_isAheadOfAll 12 = .ok (.aload_n 0, 1) := by decide +kernel
theorem dX12_isAheadOfAll_13 : decode cX12_isAheadOfAll 13 = .ok (.iload 4, 2) := by decide +kernel
theorem dX12_isAheadOfAll_15 : decode cX12_isAheadOfAll 15 = .ok (.iload_n 1, 1) := by decide +kernel
theorem dX12_isAheadOfAll_16 : decode cX12_isAheadOfAll 16 = .ok (.iload_n 3, 1) := by decide +kernel
theorem dX12_isAheadOfAll_17 : decode cX12_isAheadOfAll 17 = .ok (.invokevirtual 214, 3) := by decide +kernel
theorem dX12_isAheadOfAll_20 : decode cX12_isAheadOfAll 20 = .ok (.ifCond .ne 6, 3) := by decide +kernel
theorem dX12_isAheadOfAll_23 : decode cX12_isAheadOfAll 23 = .ok (.goto 80, 3) := by decide +kernel
theorem dX12_isAheadOfAll_26 : decode cX12_isAheadOfAll 26 = .ok (.iconst 1, 1) := by decide +kernel
theorem dX12_isAheadOfAll_27 : decode cX12_isAheadOfAll 27 = .ok (.istore 5, 2) := by decide +kernel
theorem dX12_isAheadOfAll_29 : decode cX12_isAheadOfAll 29 = .ok (.iconst 0, 1) := by decide +kernel
theorem dX12_isAheadOfAll_30 : decode cX12_isAheadOfAll 30 = .ok (.istore 6, 2) := by decide +kernel
theorem dX12_isAheadOfAll_32 : decode cX12_isAheadOfAll 32 = .ok (.iload 6, 2) := by decide +kernel
theorem dX12_isAheadOfAll_34 : decode cX12_isAheadOfAll 34 = .ok (.aload_n 0, 1) := by decide +kernel
theorem dX12_isAheadOfAll_35 : decode cX12_isAheadOfAll 35 = .ok (.getfield 132, 3) := by decide +kernel
theorem dX12_isAheadOfAll_38 : decode cX12_isAheadOfAll 38 = .ok (.if_icmp .ge 58, 3) := by decide +kernel
theorem dX12_isAheadOfAll_41 : decode cX12_isAheadOfAll 41 = .ok (.iload 5, 2) := by decide +kernel
theorem dX12_isAheadOfAll_43 : decode cX12_isAheadOfAll 43 = .ok (.ifCond .eq 44, 3) := by decide +kernel
theorem dX12_isAheadOfAll_46 : decode cX12_isAheadOfAll 46 = .ok (.aload_n 0, 1) := by decide +kernel
theorem dX12_isAheadOfAll_47 : decode cX12_isAheadOfAll 47 = .ok (.iload 6, 2) := by decide +kernel
theorem dX12_isAheadOfAll_49 : decode cX12_isAheadOfAll 49 = .ok (.iload_n 2, 1) := by decide +kernel
theorem dX12_isAheadOfAll_50 : decode cX12_isAheadOfAll 50 = .ok (.iload_n 3, 1) := by decide +kernel
theorem dX12_isAheadOfAll_51 : decode cX12_isAheadOfAll 51 = .ok (.invokevirtual 214, 3) := by decide +kernel
theorem dX12_isAheadOfAll_54 : decode cX12_isAheadOfAll 54 = .ok (.ifCond .eq 29, 3) := by decide +kernel
theorem dX12_isAheadOfAll_57 : decode cX12_isAheadOfAll 57 = .ok (.aload_n 0, 1) := by decide +kernel
theorem dX12_isAheadOfAll_58 : decode cX12_isAheadOfAll 58 = .ok (.getfield 35, 3) := by decide +kernel
theorem dX12_isAheadOfAll_61 : decode cX12_isAheadOfAll 61 = .ok (.bipush 30, 2) := by decide +kernel
theorem dX12_isAheadOfAll_63 : decode cX12_isAheadOfAll 63 = .ok (.aload_n 0, 1) := by decide +kernel
theorem dX12_isAheadOfAll_64 : decode cX12_isAheadOfAll 64 = .ok (.getfield 39, 3) := by decide +kernel
theorem dX12_isAheadOfAll_67 : decode cX12_isAheadOfAll 67 = .ok (.iload 4, 2) := by decide +kernel
theorem dX12_isAheadOfAll_69 : decode cX12_isAheadOfAll 69 = .ok (.iaload, 1) := by decide +kernel
theorem dX12_isAheadOfAll_70 : decode cX12_isAheadOfAll 70 = .ok (.imul, 1) := by decide +kernel
theorem dX12_isAheadOfAll_71 : decode cX12_isAheadOfAll 71 = .ok (.aload_n 0, 1) := by decide +kernel
theorem dX12_isAheadOfAll_72 : decode cX12_isAheadOfAll 72 = .ok (.getfield 39, 3) := by decide +kernel
theorem dX12_isAheadOfAll_75 : decode cX12_isAheadOfAll 75 = .ok (.iload 6, 2) := by decide +kernel
theorem dX12_isAheadOfAll_77 : decode cX12_isAheadOfAll 77 = .ok (.iaload, 1) := by decide +kernel
theorem dX12_isAheadOfAll_78 : decode cX12_isAheadOfAll 78 = .ok (.iadd, 1) := by decide +kernel
theorem dX12_isAheadOfAll_79 : decode cX12_isAheadOfAll 79 = .ok (.baload, 1) := by decide +kernel
theorem dX12_isAheadOfAll_80 : decode cX12_isAheadOfAll 80 = .ok (.ifCond .eq 7, 3) := by decide +kernel
theorem dX12_isAheadOfAll_83 : decode cX12_isAheadOfAll 83 = .ok (.iconst 1, 1) := by decide +kernel
theorem dX12_isAheadOfAll_84 : decode cX12_isAheadOfAll 84 = .ok (.goto 4, 3) := by decide +kernel
theorem dX12_isAheadOfAll_87 : decode cX12_isAheadOfAll 87 = .ok (.iconst 0, 1) := by decide +kernel
theorem dX12_isAheadOfAll_88 : decode cX12_isAheadOfAll 88 = .ok (.istore 5, 2) := by decide +kernel
theorem dX12_isAheadOfAll_90 : decode cX12_isAheadOfAll 90 = .ok (.iinc 6 1, 3) := by decide +kernel
theorem dX12_isAheadOfAll_93 : decode cX12_isAheadOfAll 93 = .ok (.goto (-61), 3) := by decide +kernel
theorem dX12_isAheadOfAll_96 : decode cX12_isAheadOfAll 96 = .ok (.iload 5, 2) := by decide +kernel
theorem dX12_isAheadOfAll_98 : decode cX12_isAheadOfAll 98 = .ok (.ifCond .eq 5, 3) := by decide +kernel
theorem dX12_isAheadOfAll_101 : decode cX12_isAheadOfAll 101 = .ok (.iconst 1, 1) := by decide +kernel
theorem dX12_isAheadOfAll_102 : decode cX12_isAheadOfAll 102 = .ok (.ireturn, 1) := by decide +kernel
theorem dX12_isAheadOfAll_103 : decode cX12_isAheadOfAll 103 = .ok (.iinc 4 1, 3) := by decide +kernel
theorem dX12_isAheadOfAll_106 : decode cX12_isAheadOfAll 106 = .ok (.goto (-103), 3) := by decide +kernel
theorem dX12_isAheadOfAll_109 : decode cX12_isAheadOfAll 109 = .ok (.iconst 0, 1) := by decide +kernel
theorem dX12_isAheadOfAll_110 : decode cX12_isAheadOfAll 110 = .ok (.ireturn, 1) := by decide +kernel
theorem dX12_older_0 : decode cX12_older 0 = .ok (.aload_n 0, 1) := by decide +kernel
theorem dX12_older_1 : decode cX12_older 1 = .ok (.iload_n 1, 1) := by decide +kernel
theorem dX12_older_2 : decode cX12_older 2 = .ok (.invokevirtual 186, 3) := by decide +kernel
theorem dX12_older_5 : decode cX12_older 5 = .ok (.ifCond .eq 11, 3) := by decide +kernel
theorem dX12_older_8 : decode cX12_older 8 = .ok (.aload_n 0, 1) := by decide +kernel
theorem dX12_older_9 : decode cX12_older 9 = .ok (.iload_n 2, 1) := by decide +kernel
theorem dX12_older_10 : decode cX12_older 10 = .ok (.invokevirtual 186, 3) := by decide +kernel
theorem dX12_older_13 : decode cX12_older 13 = .ok (.ifCond .ne 5, 3) := by decide +kernel
theorem dX12_older_16 : decode cX12_older 16 = .ok (.iconst (-1), 1) := by decide +kernel
theorem dX12_older_17 : decode cX12_older 17 = .ok (.ireturn, 1) := by decide +kernel
theorem dX12_older_18 : decode cX12_older 18 = .ok (.aload_n 0, 1) := by decide +kernel
theorem dX12_older_19 : decode cX12_older 19 = .ok (.iload_n 1, 1) := by decide +kernel
theorem dX12_older_20 : decode cX12_older 20 = .ok (.iconst 0, 1) := by decide +kernel
theorem dX12_older_21 : decode cX12_older 21 = .ok (.invokevirtual 230, 3) := by decide +kernel
theorem dX12_older_24 : decode cX12_older 24 = .ok (.aload_n 0, 1) := by decide +kernel
theorem dX12_older_25 : decode cX12_older 25 = .ok (.getfield 211, 3) := by decide +kernel
theorem dX12_older_28 : decode cX12_older 28 = .ok (.istore_n 3, 1) := by decide +kernel
theorem dX12_older_29 : decode cX12_older 29 = .ok (.aload_n 0, 1) := by decide +kernel
theorem dX12_older_30 : decode cX12_older 30 = .ok (.iload_n 2, 1) := by decide +kernel
theorem dX12_older_31 : decode cX12_older 31 = .ok (.iconst 0, 1) := by decide +kernel
theorem dX12_older_32 : decode cX12_older 32 = .ok (.invokevirtual 230, 3) := by decide +kernel
theorem dX12_older_35 : decode cX12_older 35 = .ok (.iload_n 3, 1) := by decide +kernel
theorem dX12_older_36 : decode cX12_older 36 = .ok (.ifCond .eq 10, 3) := by decide +kernel
theorem dX12_older_39 : decode cX12_older 39 = .ok (.aload_n 0, 1) := by decide +kernel
theorem dX12_older_40 : decode cX12_older 40 = .ok (.getfield 211, 3) := by decide +kernel
theorem dX12_older_43 : decode cX12_older 43 = .ok (.ifCond .ne 5, 3) := by decide +kernel
theorem dX12_older_46 : decode cX12_older 46 = .ok (.iconst (-1), 1) := by decide +kernel
theorem dX12_older_47 : decode cX12_older 47 = .ok (.ireturn, 1) := by decide +kernel
theorem dX12_older_48 : decode cX12_older 48 = .ok (.aload_n 0, 1) := by decide +kernel
theorem dX12_older_49 : decode cX12_older 49 = .ok (.iload_n 1, 1) := by decide +kernel
theorem dX12_older_50 : decode cX12_older 50 = .ok (.iload_n 2, 1) := by decide +kernel
theorem dX12_older_51 : decode cX12_older 51 = .ok (.iconst 0, 1) := by decide +kernel
theorem dX12_older_52 : decode cX12_older 52 = .ok (.invokevirtual 249, 3) := by decide +kernel
theorem dX12_older_55 : decode cX12_older 55 = .ok (.ifCond .eq 7, 3) := by decide +kernel
theorem dX12_older_58 : decode cX12_older 58 = .ok (.iconst 1, 1) := by decide +kernel
theorem dX12_older_59 : decode cX12_older 59 = .ok (.goto 18, 3) := by decide +kernel
theorem dX12_older_62 : decode cX12_older 62 = .ok (.aload_n 0, 1) := by decide +kernel
theorem dX12_older_63 : decode cX12_older 63 = .ok (.iload_n 2, 1) := by decide +kernel
theorem dX12_older_64 : decode cX12_older 64 = .ok (.iload_n 1, 1) := by decide +kernel
theorem dX12_older_65 : decode cX12_older 65 = .ok (.iconst 0, 1) := by decide +kernel
theorem dX12_older_66 : decode cX12_older 66 = .ok (.invokevirtual 249, 3) := by decide +kernel
theorem dX12_older_69 : decode cX12_older 69 = .ok (.ifCond .eq 7, 3) := by decide +kernel
theorem dX12_older_72 : decode cX12_older 72 = .ok (.iconst 2, 1) := by decide +kernel
theorem dX12_older_73 : decode cX12_older 73 = .ok (.goto 4, 3) := by decide +kernel
theorem dX12_older_76 : decode cX12_older 76 = .ok (.iconst 0, 1) := by decide +kernel
theorem dX12_older_77 : decode cX12_older 77 = .ok (.ireturn, 1) := by decide +kernel
theorem dX12_flaws_0 : decode cX12_flaws 0 = .ok (.iconst 0, 1) := by decide +kernel
theorem dX12_flaws_1 : decode cX12_flaws 1 = .ok (.istore_n 2, 1) := by decide +kernel
theorem dX12_flaws_2 : decode cX12_flaws 2 = .ok (.iconst 0, 1) := by decide +kernel
theorem dX12_flaws_3 : decode cX12_flaws 3 = .ok (.istore_n 3, 1) := by decide +kernel
theorem dX12_flaws_4 : decode cX12_flaws 4 = .ok (.iload_n 3, 1) := by decide +kernel
theorem dX12_flaws_5 : decode cX12_flaws 5 = .ok (.bipush 40, 2) := by decide +kernel
theorem dX12_flaws_7 : decode cX12_flaws 7 = .ok (.if_icmp .ge 91, 3) := by decide +kernel
theorem dX12_flaws_10 : decode cX12_flaws 10 = .ok (.iconst 0, 1) := by decide +kernel
theorem dX12_flaws_11 : decode cX12_flaws 11 = .ok (.istore 4, 2) := by decide +kernel
theorem dX12_flaws_13 : decode cX12_flaws 13 = .ok (.iload 4, 2) := by decide +kernel
theorem dX12_flaws_15 : decode cX12_flaws 15 = .ok (.bipush 40, 2) := by decide +kernel
theorem dX12_flaws_17 : decode cX12_flaws 17 = .ok (.if_icmp .ge 75, 3) := by decide +kernel
theorem dX12_flaws_20 : decode cX12_flaws 20 = .ok (.iload_n 3, 1) := by decide +kernel
theorem dX12_flaws_21 : decode cX12_flaws 21 = .ok (.iload 4, 2) := by decide +kernel
theorem dX12_flaws_23 : decode cX12_flaws 23 = .ok (.if_icmp .eq 63, 3) := by decide +kernel
theorem dX12_flaws_26 : decode cX12_flaws 26 = .ok (.aload_n 0, 1) := by decide +kernel
theorem dX12_flaws_27 : decode cX12_flaws 27 = .ok (.getfield 73, 3) := by decide +kernel
theorem dX12_flaws_30 : decode cX12_flaws 30 = .ok (.iload_n 3, 1) := by decide +kernel
theorem dX12_flaws_31 : decode cX12_flaws 31 = .ok (.baload, 1) := by decide +kernel
theorem dX12_flaws_32 : decode cX12_flaws 32 = .ok (.ifCond .eq 54, 3) := by decide +kernel
theorem dX12_flaws_35 : decode cX12_flaws 35 = .ok (.aload_n 0, 1) := by decide +kernel
theorem dX12_flaws_36 : decode cX12_flaws 36 = .ok (.getfield 73, 3) := by decide +kernel
theorem dX12_flaws_39 : decode cX12_flaws 39 = .ok (.iload 4, 2) := by decide +kernel
theorem dX12_flaws_41 : decode cX12_flaws 41 = .ok (.baload, 1) := by decide +kernel
theorem dX12_flaws_42 : decode cX12_flaws 42 = .ok (.ifCond .eq 44, 3) := by decide +kernel
theorem dX12_flaws_45 : decode cX12_flaws 45 = .ok (.aload_n 0, 1) := by decide +kernel
theorem dX12_flaws_46 : decode cX12_flaws 46 = .ok (.iload_n 3, 1) := by decide +kernel
theorem dX12_flaws_47 : decode cX12_flaws 47 = .ok (.iload 4, 2) := by decide +kernel
theorem dX12_flaws_49 : decode cX12_flaws 49 = .ok (.invokevirtual 193, 3) := by decide +kernel
theorem dX12_flaws_52 : decode cX12_flaws 52 = .ok (.ifCond .eq 34, 3) := by decide +kernel
theorem dX12_flaws_55 : decode cX12_flaws 55 = .ok (.aload_n 0, 1) := by decide +kernel
theorem dX12_flaws_56 : decode cX12_flaws 56 = .ok (.iload_n 3, 1) := by decide +kernel
theorem dX12_flaws_57 : decode cX12_flaws 57 = .ok (.iload 4, 2) := by decide +kernel
theorem dX12_flaws_59 : decode cX12_flaws 59 = .ok (.iconst 1, 1) := by decide +kernel
theorem dX12_flaws_60 : decode cX12_flaws 60 = .ok (.invokevirtual 249, 3) := by decide +kernel
theorem dX12_flaws_63 : decode cX12_flaws 63 = .ok (.ifCond .ne 6, 3) := by decide +kernel
theorem dX12_flaws_66 : decode cX12_flaws 66 = .ok (.goto 20, 3) := by decide +kernel
theorem dX12_flaws_69 : decode cX12_flaws 69 = .ok (.iload_n 2, 1) := by decide +kernel
theorem dX12_flaws_70 : decode cX12_flaws 70 = .ok (.iload_n 1, 1) := by decide +kernel
theorem dX12_flaws_71 : decode cX12_flaws 71 = .ok (.if_icmp .ne 11, 3) := by decide +kernel
theorem dX12_flaws_74 : decode cX12_flaws 74 = .ok (.bipush 64, 2) := by decide +kernel
theorem dX12_flaws_76 : decode cX12_flaws 76 = .ok (.iload_n 3, 1) := by decide +kernel
theorem dX12_flaws_77 : decode cX12_flaws 77 = .ok (.imul, 1) := by decide +kernel
theorem dX12_flaws_78 : decode cX12_flaws 78 = .ok (.iload 4, 2) := by decide +kernel
theorem dX12_flaws_80 : decode cX12_flaws 80 = .ok (.iadd, 1) := by decide +kernel
theorem dX12_flaws_81 : decode cX12_flaws 81 = .ok (.ireturn, 1) := by decide +kernel
theorem dX12_flaws_82 : decode cX12_flaws 82 = .ok (.iload_n 2, 1) := by decide +kernel
theorem dX12_flaws_83 : decode cX12_flaws 83 = .ok (.iconst 1, 1) := by decide +kernel
theorem dX12_flaws_84 : decode cX12_flaws 84 = .ok (.iadd, 1) := by decide +kernel
theorem dX12_flaws_85 : decode cX12_flaws 85 = .ok (.istore_n 2, 1) := by decide +kernel
theorem dX12_flaws_86 : decode cX12_flaws 86 = .ok (.iinc 4 1, 3) := by decide +kernel
theorem dX12_flaws_89 : decode cX12_flaws 89 = .ok (.goto (-76), 3) := by decide +kernel
theorem dX12_flaws_92 : decode cX12_flaws 92 = .ok (.iinc 3 1, 3) := by decide +kernel
theorem dX12_flaws_95 : decode cX12_flaws 95 = .ok (.goto (-91), 3) := by decide +kernel
theorem dX12_flaws_98 : decode cX12_flaws 98 = .ok (.iload_n 1, 1) := by decide +kernel
theorem dX12_flaws_99 : decode cX12_flaws 99 = .ok (.iconst (-1), 1) := by decide +kernel
theorem dX12_flaws_100 : decode cX12_flaws 100 = .ok (.if_icmp .ne 7, 3) := by decide +kernel
theorem dX12_flaws_103 : decode cX12_flaws 103 = .ok (.iload_n 2, 1) := by decide +kernel
theorem dX12_flaws_104 : decode cX12_flaws 104 = .ok (.goto 4, 3) := by decide +kernel
theorem dX12_flaws_107 : decode cX12_flaws 107 = .ok (.iconst (-1), 1) := by decide +kernel
theorem dX12_flaws_108 : decode cX12_flaws 108 = .ok (.ireturn, 1) := by decide +kernel
theorem dX12_flaw_0 : decode cX12_flaw 0 = .ok (.iload_n 1, 1) := by decide +kernel
theorem dX12_flaw_1 : decode cX12_flaw 1 = .ok (.ifCond .ge 7, 3) := by decide +kernel
theorem dX12_flaw_4 : decode cX12_flaw 4 = .ok (.iconst (-1), 1) := by decide +kernel
theorem dX12_flaw_5 : decode cX12_flaw 5 = .ok (.goto 8, 3) := by decide +kernel
theorem dX12_flaw_8 : decode cX12_flaw 8 = .ok (.aload_n 0, 1) := by decide +kernel
theorem dX12_flaw_9 : decode cX12_flaw 9 = .ok (.iload_n 1, 1) := by decide +kernel
theorem dX12_flaw_10 : decode cX12_flaw 10 = .ok (.invokevirtual 252, 3) := by decide +kernel
theorem dX12_flaw_13 : decode cX12_flaw 13 = .ok (.ireturn, 1) := by decide +kernel
theorem dX12_byteOf_0 : decode cX12_byteOf 0 = .ok (.lload_n 0, 1) := by decide +kernel
theorem dX12_byteOf_1 : decode cX12_byteOf 1 = .ok (.bipush 8, 2) := by decide +kernel
theorem dX12_byteOf_3 : decode cX12_byteOf 3 = .ok (.lload_n 0, 1) := by decide +kernel
theorem dX12_byteOf_4 : decode cX12_byteOf 4 = .ok (.invokestatic 158, 3) := by decide +kernel
theorem dX12_byteOf_7 : decode cX12_byteOf 7 = .ok (.iconst 1, 1) := by decide +kernel
theorem dX12_byteOf_8 : decode cX12_byteOf 8 = .ok (.isub, 1) := by decide +kernel
theorem dX12_byteOf_9 : decode cX12_byteOf 9 = .ok (.iload_n 2, 1) := by decide +kernel
theorem dX12_byteOf_10 : decode cX12_byteOf 10 = .ok (.isub, 1) := by decide +kernel
theorem dX12_byteOf_11 : decode cX12_byteOf 11 = .ok (.imul, 1) := by decide +kernel
theorem dX12_byteOf_12 : decode cX12_byteOf 12 = .ok (.lushr, 1) := by decide +kernel
theorem dX12_byteOf_13 : decode cX12_byteOf 13 = .ok (.l2i, 1) := by decide +kernel
theorem dX12_byteOf_14 : decode cX12_byteOf 14 = .ok (.sipush 255, 3) := by decide +kernel
theorem dX12_byteOf_17 : decode cX12_byteOf 17 = .ok (.iand, 1) := by decide +kernel
theorem dX12_byteOf_18 : decode cX12_byteOf 18 = .ok (.ireturn, 1) := by decide +kernel
theorem dX12_where_0 : decode cX12_where 0 = .ok (.aload_n 0, 1) := by decide +kernel
theorem dX12_where_1 : decode cX12_where 1 = .ok (.iload_n 1, 1) := by decide +kernel
theorem dX12_where_2 : decode cX12_where 2 = .ok (.invokevirtual 183, 3) := by decide +kernel
theorem dX12_where_5 : decode cX12_where 5 = .ok (.ifCond .ne 5, 3) := by decide +kernel
theorem dX12_where_8 : decode cX12_where 8 = .ok (.iconst (-1), 1) := by decide +kernel
theorem dX12_where_9 : decode cX12_where 9 = .ok (.ireturn, 1) := by decide +kernel
theorem dX12_where_10 : decode cX12_where 10 = .ok (.iload_n 2, 1) := by decide +kernel
theorem dX12_where_11 : decode cX12_where 11 = .ok (.tableswitch 78 0 4 #[33, 40, 47, 61, 68], 33) := by decide +kernel
theorem dX12_where_44 : decode cX12_where 44 = .ok (.aload_n 0, 1) := by decide +kernel
theorem dX12_where_45 : decode cX12_where 45 = .ok (.getfield 42, 3) := by decide +kernel
theorem dX12_where_48 : decode cX12_where 48 = .ok (.iload_n 1, 1) := by decide +kernel
theorem dX12_where_49 : decode cX12_where 49 = .ok (.iaload, 1) := by decide +kernel
theorem dX12_where_50 : decode cX12_where 50 = .ok (.ireturn, 1) := by decide +kernel
theorem dX12_where_51 : decode cX12_where 51 = .ok (.aload_n 0, 1) := by decide +kernel
theorem dX12_where_52 : decode cX12_where 52 = .ok (.getfield 45, 3) := by decide +kernel
theorem dX12_where_55 : decode cX12_where 55 = .ok (.iload_n 1, 1) := by decide +kernel
theorem dX12_where_56 : decode cX12_where 56 = .ok (.iaload, 1) := by decide +kernel
theorem dX12_where_57 : decode cX12_where 57 = .ok (.ireturn, 1) := by decide +kernel
theorem dX12_where_58 : decode cX12_where 58 = .ok (.aload_n 0, 1) := by decide +kernel
theorem dX12_where_59 : decode cX12_where 59 = .ok (.iload_n 1, 1) := by decide +kernel
theorem dX12_where_60 : decode cX12_where 60 = .ok (.invokevirtual 255, 3) := by decide +kernel
theorem dX12_where_63 : decode cX12_where 63 = .ok (.ifCond .eq 7, 3) := by decide +kernel
theorem dX12_where_66 : decode cX12_where 66 = .ok (.iconst 1, 1) := by decide +kernel
theorem dX12_where_67 : decode cX12_where 67 = .ok (.goto 4, 3) := by decide +kernel
theorem dX12_where_70 : decode cX12_where 70 = .ok (.iconst 0, 1) := by decide +kernel
theorem dX12_where_71 : decode cX12_where 71 = .ok (.ireturn, 1) := by decide +kernel
theorem dX12_where_72 : decode cX12_where 72 = .ok (.aload_n 0, 1) := by decide +kernel
theorem dX12_where_73 : decode cX12_where 73 = .ok (.getfield 39, 3) := by decide +kernel
theorem dX12_where_76 : decode cX12_where 76 = .ok (.iload_n 1, 1) := by decide +kernel
theorem dX12_where_77 : decode cX12_where 77 = .ok (.iaload, 1) := by decide +kernel
theorem dX12_where_78 : decode cX12_where 78 = .ok (.ireturn, 1) := by decide +kernel
theorem dX12_where_79 : decode cX12_where 79 = .ok (.aload_n 0, 1) := by decide +kernel
theorem dX12_where_80 : decode cX12_where 80 = .ok (.getfield 48, 3) := by decide +kernel
theorem dX12_where_83 : decode cX12_where 83 = .ok (.iload_n 1, 1) := by decide +kernel
theorem dX12_where_84 : decode cX12_where 84 = .ok (.laload, 1) := by decide +kernel
theorem dX12_where_85 : decode cX12_where 85 = .ok (.invokestatic 158, 3) := by decide +kernel
theorem dX12_where_88 : decode cX12_where 88 = .ok (.ireturn, 1) := by decide +kernel
theorem dX12_where_89 : decode cX12_where 89 = .ok (.iload_n 2, 1) := by decide +kernel
theorem dX12_where_90 : decode cX12_where 90 = .ok (.bipush 10, 2) := by decide +kernel
theorem dX12_where_92 : decode cX12_where 92 = .ok (.if_icmp .lt 35, 3) := by decide +kernel
theorem dX12_where_95 : decode cX12_where 95 = .ok (.iload_n 2, 1) := by decide +kernel
theorem dX12_where_96 : decode cX12_where 96 = .ok (.bipush 10, 2) := by decide +kernel
theorem dX12_where_98 : decode cX12_where 98 = .ok (.aload_n 0, 1) := by decide +kernel
theorem dX12_where_99 : decode cX12_where 99 = .ok (.getfield 48, 3) := by decide +kernel
theorem dX12_where_102 : decode cX12_where 102 = .ok (.iload_n 1, 1) := by decide +kernel
theorem dX12_where_103 : decode cX12_where 103 = .ok (.laload, 1) := by decide +kernel
theorem dX12_where_104 : decode cX12_where 104 = .ok (.invokestatic 158, 3) := by decide +kernel
theorem dX12_where_107 : decode cX12_where 107 = .ok (.iadd, 1) := by decide +kernel
theorem dX12_where_108 : decode cX12_where 108 = .ok (.if_icmp .ge 19, 3) := by decide +kernel
theorem dX12_where_111 : decode cX12_where 111 = .ok (.aload_n 0, 1) := by decide +kernel
theorem dX12_where_112 : decode cX12_where 112 = .ok (.getfield 48, 3) := by decide +kernel
theorem dX12_where_115 : decode cX12_where 115 = .ok (.iload_n 1, 1) := by decide +kernel
theorem dX12_where_116 : decode cX12_where 116 = .ok (.laload, 1) := by decide +kernel
theorem dX12_where_117 : decode cX12_where 117 = .ok (.iload_n 2, 1) := by decide +kernel
theorem dX12_where_118 : decode cX12_where 118 = .ok (.bipush 10, 2) := by decide +kernel
theorem dX12_where_120 : decode cX12_where 120 = .ok (.isub, 1) := by decide +kernel
theorem dX12_where_121 : decode cX12_where 121 = .ok (.invokestatic 258, 3) := by decide +kernel
theorem dX12_where_124 : decode cX12_where 124 = .ok (.goto 4, 3) := by decide +kernel
theorem dX12_where_127 : decode cX12_where 127 = .ok (.iconst (-1), 1) := by decide +kernel
theorem dX12_where_128 : decode cX12_where 128 = .ok (.ireturn, 1) := by decide +kernel
theorem dX12_loosePointers_0 : decode cX12_loosePointers 0 = .ok (.iconst 0, 1) := by decide +kernel
theorem dX12_loosePointers_1 : decode cX12_loosePointers 1 = .ok (.istore_n 1, 1) := by decide +kernel
theorem dX12_loosePointers_2 : decode cX12_loosePointers 2 = .ok (.iconst 0, 1) := by decide +kernel
theorem dX12_loosePointers_3 : decode cX12_loosePointers 3 = .ok (.istore_n 2, 1) := by decide +kernel
theorem dX12_loosePointers_4 : decode cX12_loosePointers 4 = .ok (.iload_n 2, 1) := by decide +kernel
theorem dX12_loosePointers_5 : decode cX12_loosePointers 5 = .ok (.aload_n 0, 1) := by decide +kernel
theorem dX12_loosePointers_6 : decode cX12_loosePointers 6 = .ok (.getfield 196, 3) := by decide +kernel
theorem dX12_loosePointers_9 : decode cX12_loosePointers 9 = .ok (.if_icmp .ge 27, 3) := by decide +kernel
theorem dX12_loosePointers_12 : decode cX12_loosePointers 12 = .ok (.iload_n 1, 1) := by decide +kernel
theorem dX12_loosePointers_13 : decode cX12_loosePointers 13 = .ok (.aload_n 0, 1) := by decide +kernel
theorem dX12_loosePointers_14 : decode cX12_loosePointers 14 = .ok (.getfield 85, 3) := by decide +kernel
theorem dX12_loosePointers_17 : decode cX12_loosePointers 17 = .ok (.iload_n 2, 1) := by decide +kernel
theorem dX12_loosePointers_18 : decode cX12_loosePointers 18 = .ok (.iaload, 1) := by decide +kernel
theorem dX12_loosePointers_19 : decode cX12_loosePointers 19 = .ok (.iconst (-1), 1) := by decide +kernel
theorem dX12_loosePointers_20 : decode cX12_loosePointers 20 = .ok (.if_icmp .ne 7, 3) := by decide +kernel
theorem dX12_loosePointers_23 : decode cX12_loosePointers 23 = .ok (.iconst 1, 1) := by decide +kernel
theorem dX12_loosePointers_24 : decode cX12_loosePointers 24 = .ok (.goto 4, 3) := by decide +kernel
theorem dX12_loosePointers_27 : decode cX12_loosePointers 27 = .ok (.iconst 0, 1) := by decide +kernel
theorem dX12_loosePointers_28 : decode cX12_loosePointers 28 = .ok (.iadd, 1) := by decide +kernel
theorem dX12_loosePointers_29 : decode cX12_loosePointers 29 = .ok (.istore_n 1, 1) := by decide +kernel
theorem dX12_loosePointers_30 : decode cX12_loosePointers 30 = .ok (.iinc 2 1, 3) := by decide +kernel
theorem dX12_loosePointers_33 : decode cX12_loosePointers 33 = .ok (.goto (-29), 3) := by decide +kernel
theorem dX12_loosePointers_36 : decode cX12_loosePointers 36 = .ok (.iload_n 1, 1) := by decide +kernel
theorem dX12_loosePointers_37 : decode cX12_loosePointers 37 = .ok (.ireturn, 1) := by decide +kernel
theorem dX12_edition_0 : decode cX12_edition 0 = .ok (.aload_n 0, 1) := by decide +kernel
theorem dX12_edition_1 : decode cX12_edition 1 = .ok (.invokevirtual 262, 3) := by decide +kernel
theorem dX12_edition_4 : decode cX12_edition 4 = .ok (.ifCond .gt 12, 3) := by decide +kernel
theorem dX12_edition_7 : decode cX12_edition 7 = .ok (.aload_n 0, 1) := by decide +kernel
theorem dX12_edition_8 : decode cX12_edition 8 = .ok (.getfield 266, 3) := by decide +kernel
theorem dX12_edition_11 : decode cX12_edition 11 = .ok (.bipush 8, 2) := by decide +kernel
theorem dX12_edition_13 : decode cX12_edition 13 = .ok (.if_icmp .ne 5, 3) := by decide +kernel
theorem dX12_edition_16 : decode cX12_edition 16 = .ok (.iconst (-1), 1) := by decide +kernel
theorem dX12_edition_17 : decode cX12_edition 17 = .ok (.ireturn, 1) := by decide +kernel
theorem dX12_edition_18 : decode cX12_edition 18 = .ok (.iconst 0, 1) := by decide +kernel
theorem dX12_edition_19 : decode cX12_edition 19 = .ok (.istore_n 1, 1) := by decide +kernel
theorem dX12_edition_20 : decode cX12_edition 20 = .ok (.iload_n 1, 1) := by decide +kernel
theorem dX12_edition_21 : decode cX12_edition 21 = .ok (.aload_n 0, 1) := by decide +kernel
theorem dX12_edition_22 : decode cX12_edition 22 = .ok (.getfield 132, 3) := by decide +kernel
theorem dX12_edition_25 : decode cX12_edition 25 = .ok (.if_icmp .ge 49, 3) := by decide +kernel
theorem dX12_edition_28 : decode cX12_edition 28 = .ok (.aload_n 0, 1) := by decide +kernel
theorem dX12_edition_29 : decode cX12_edition 29 = .ok (.getfield 91, 3) := by decide +kernel
theorem dX12_edition_32 : decode cX12_edition 32 = .ok (.bipush 120, 2) := by decide +kernel
theorem dX12_edition_34 : decode cX12_edition 34 = .ok (.aload_n 0, 1) := by decide +kernel
theorem dX12_edition_35 : decode cX12_edition 35 = .ok (.getfield 266, 3) := by decide +kernel
theorem dX12_edition_38 : decode cX12_edition 38 = .ok (.imul, 1) := by decide +kernel
theorem dX12_edition_39 : decode cX12_edition 39 = .ok (.iload_n 1, 1) := by decide +kernel
theorem dX12_edition_40 : decode cX12_edition 40 = .ok (.iadd, 1) := by decide +kernel
theorem dX12_edition_41 : decode cX12_edition 41 = .ok (.aload_n 0, 1) := by decide +kernel
theorem dX12_edition_42 : decode cX12_edition 42 = .ok (.getfield 42, 3) := by decide +kernel
theorem dX12_edition_45 : decode cX12_edition 45 = .ok (.iload_n 1, 1) := by decide +kernel
theorem dX12_edition_46 : decode cX12_edition 46 = .ok (.iaload, 1) := by decide +kernel
theorem dX12_edition_47 : decode cX12_edition 47 = .ok (.iastore, 1) := by decide +kernel
theorem dX12_edition_48 : decode cX12_edition 48 = .ok (.aload_n 0, 1) := by decide +kernel
theorem dX12_edition_49 : decode cX12_edition 49 = .ok (.getfield 94, 3) := by decide +kernel
theorem dX12_edition_52 : decode cX12_edition 52 = .ok (.bipush 120, 2) := by decide +kernel
theorem dX12_edition_54 : decode cX12_edition 54 = .ok (.aload_n 0, 1) := by decide +kernel
theorem dX12_edition_55 : decode cX12_edition 55 = .ok (.getfield 266, 3) := by decide +kernel
theorem dX12_edition_58 : decode cX12_edition 58 = .ok (.imul, 1) := by decide +kernel
theorem dX12_edition_59 : decode cX12_edition 59 = .ok (.iload_n 1, 1) := by decide +kernel
theorem dX12_edition_60 : decode cX12_edition 60 = .ok (.iadd, 1) := by decide +kernel
theorem dX12_edition_61 : decode cX12_edition 61 = .ok (.aload_n 0, 1) := by decide +kernel
theorem dX12_edition_62 : decode cX12_edition 62 = .ok (.getfield 45, 3) := by decide +kernel
theorem dX12_edition_65 : decode cX12_edition 65 = .ok (.iload_n 1, 1) := by decide +kernel
theorem dX12_edition_66 : decode cX12_edition 66 = .ok (.iaload, 1) := by decide +kernel
theorem dX12_edition_67 : decode cX12_edition 67 = .ok (.iastore, 1) := by decide +kernel
theorem dX12_edition_68 : decode cX12_edition 68 = .ok (.iinc 1 1, 3) := by decide +kernel
theorem dX12_edition_71 : decode cX12_edition 71 = .ok (.goto (-51), 3) := by decide +kernel
theorem dX12_edition_74 : decode cX12_edition 74 = .ok (.aload_n 0, 1) := by decide +kernel
theorem dX12_edition_75 : decode cX12_edition 75 = .ok (.getfield 88, 3) := by decide +kernel
theorem dX12_edition_78 : decode cX12_edition 78 = .ok (.aload_n 0, 1) := by decide +kernel
theorem dX12_edition_79 : decode cX12_edition 79 = .ok (.getfield 266, 3) := by decide +kernel
theorem dX12_edition_82 : decode cX12_edition 82 = .ok (.aload_n 0, 1) := by decide +kernel
theorem dX12_edition_83 : decode cX12_edition 83 = .ok (.getfield 132, 3) := by decide +kernel
theorem dX12_edition_86 : decode cX12_edition 86 = .ok (.iastore, 1) := by decide +kernel
theorem dX12_edition_87 : decode cX12_edition 87 = .ok (.aload_n 0, 1) := by decide +kernel
theorem dX12_edition_88 : decode cX12_edition 88 = .ok (.aload_n 0, 1) := by decide +kernel
theorem dX12_edition_89 : decode cX12_edition 89 = .ok (.getfield 266, 3) := by decide +kernel
theorem dX12_edition_92 : decode cX12_edition 92 = .ok (.iconst 1, 1) := by decide +kernel
theorem dX12_edition_93 : decode cX12_edition 93 = .ok (.iadd, 1) := by decide +kernel
theorem dX12_edition_94 : decode cX12_edition 94 = .ok (.putfield 266, 3) := by decide +kernel
theorem dX12_edition_97 : decode cX12_edition 97 = .ok (.aload_n 0, 1) := by decide +kernel
theorem dX12_edition_98 : decode cX12_edition 98 = .ok (.getfield 266, 3) := by decide +kernel
theorem dX12_edition_101 : decode cX12_edition 101 = .ok (.iconst 1, 1) := by decide +kernel
theorem dX12_edition_102 : decode cX12_edition 102 = .ok (.isub, 1) := by decide +kernel
theorem dX12_edition_103 : decode cX12_edition 103 = .ok (.ireturn, 1) := by decide +kernel
theorem dX12_isEdition_0 : decode cX12_isEdition 0 = .ok (.iload_n 1, 1) := by decide +kernel
theorem dX12_isEdition_1 : decode cX12_isEdition 1 = .ok (.ifCond .lt 15, 3) := by decide +kernel
theorem dX12_isEdition_4 : decode cX12_isEdition 4 = .ok (.iload_n 1, 1) := by decide +kernel
theorem dX12_isEdition_5 : decode cX12_isEdition 5 = .ok (.aload_n 0, 1) := by decide +kernel
theorem dX12_isEdition_6 : decode cX12_isEdition 6 = .ok (.getfield 266, 3) := by decide +kernel
theorem dX12_isEdition_9 : decode cX12_isEdition 9 = .ok (.if_icmp .ge 7, 3) := by decide +kernel
theorem dX12_isEdition_12 : decode cX12_isEdition 12 = .ok (.iconst 1, 1) := by decide +kernel
theorem dX12_isEdition_13 : decode cX12_isEdition 13 = .ok (.goto 4, 3) := by decide +kernel
theorem dX12_isEdition_16 : decode cX12_isEdition 16 = .ok (.iconst 0, 1) := by decide +kernel
theorem dX12_isEdition_17 : decode cX12_isEdition 17 = .ok (.ireturn, 1) := by decide +kernel
theorem dX12_as_0 : decode cX12_as 0 = .ok (.aload_n 0, 1) := by decide +kernel
theorem dX12_as_1 : decode cX12_as 1 = .ok (.iload_n 1, 1) := by decide +kernel
theorem dX12_as_2 : decode cX12_as 2 = .ok (.invokevirtual 269, 3) := by decide +kernel
theorem dX12_as_5 : decode cX12_as 5 = .ok (.ifCond .eq 20, 3) := by decide +kernel
theorem dX12_as_8 : decode cX12_as 8 = .ok (.aload_n 0, 1) := by decide +kernel
theorem dX12_as_9 : decode cX12_as 9 = .ok (.iload_n 2, 1) := by decide +kernel
theorem dX12_as_10 : decode cX12_as 10 = .ok (.invokevirtual 183, 3) := by decide +kernel
theorem dX12_as_13 : decode cX12_as 13 = .ok (.ifCond .eq 12, 3) := by decide +kernel
theorem dX12_as_16 : decode cX12_as 16 = .ok (.iload_n 3, 1) := by decide +kernel
theorem dX12_as_17 : decode cX12_as 17 = .ok (.ifCond .lt 8, 3) := by decide +kernel
theorem dX12_as_20 : decode cX12_as 20 = .ok (.iload_n 3, 1) := by decide +kernel
theorem dX12_as_21 : decode cX12_as 21 = .ok (.iconst 1, 1) := by decide +kernel
theorem dX12_as_22 : decode cX12_as 22 = .ok (.if_icmp .le 5, 3) := by decide +kernel
theorem dX12_as_25 : decode cX12_as 25 = .ok (.iconst (-1), 1) := by decide +kernel
theorem dX12_as_26 : decode cX12_as 26 = .ok (.ireturn, 1) := by decide +kernel
theorem dX12_as_27 : decode cX12_as 27 = .ok (.iload_n 2, 1) := by decide +kernel
theorem dX12_as_28 : decode cX12_as 28 = .ok (.aload_n 0, 1) := by decide +kernel
theorem dX12_as_29 : decode cX12_as 29 = .ok (.getfield 88, 3) := by decide +kernel
theorem dX12_as_32 : decode cX12_as 32 = .ok (.iload_n 1, 1) := by decide +kernel
theorem dX12_as_33 : decode cX12_as 33 = .ok (.iaload, 1) := by decide +kernel
theorem dX12_as_34 : decode cX12_as 34 = .ok (.if_icmp .lt 6, 3) := by decide +kernel
theorem dX12_as_37 : decode cX12_as 37 = .ok (.bipush (-2), 2) := by decide +kernel
theorem dX12_as_39 : decode cX12_as 39 = .ok (.ireturn, 1) := by decide +kernel
theorem dX12_as_40 : decode cX12_as 40 = .ok (.iload_n 3, 1) := by decide +kernel
theorem dX12_as_41 : decode cX12_as 41 = .ok (.ifCond .ne 17, 3) := by decide +kernel
theorem dX12_as_44 : decode cX12_as 44 = .ok (.aload_n 0, 1) := by decide +kernel
theorem dX12_as_45 : decode cX12_as 45 = .ok (.getfield 91, 3) := by decide +kernel
theorem dX12_as_48 : decode cX12_as 48 = .ok (.bipush 120, 2) := by decide +kernel
theorem dX12_as_50 : decode cX12_as 50 = .ok (.iload_n 1, 1) := by decide +kernel
theorem dX12_as_51 : decode cX12_as 51 = .ok (.imul, 1) := by decide +kernel
theorem dX12_as_52 : decode cX12_as 52 = .ok (.iload_n 2, 1) := by decide +kernel
theorem dX12_as_53 : decode cX12_as 53 = .ok (.iadd, 1) := by decide +kernel
theorem dX12_as_54 : decode cX12_as 54 = .ok (.iaload, 1) := by decide +kernel
theorem dX12_as_55 : decode cX12_as 55 = .ok (.goto 14, 3) := by decide +kernel
theorem dX12_as_58 : decode cX12_as 58 = .ok (.aload_n 0, 1) := by decide +kernel
theorem dX12_as_59 : decode cX12_as 59 = .ok (.getfield 94, 3) := by decide +kernel
theorem dX12_as_62 : decode cX12_as 62 = .ok (.bipush 120, 2) := by decide +kernel
theorem dX12_as_64 : decode cX12_as 64 = .ok (.iload_n 1, 1) := by decide +kernel
theorem dX12_as_65 : decode cX12_as 65 = .ok (.imul, 1) := by decide +kernel
theorem dX12_as_66 : decode cX12_as 66 = .ok (.iload_n 2, 1) := by decide +kernel
theorem dX12_as_67 : decode cX12_as 67 = .ok (.iadd, 1) := by decide +kernel
theorem dX12_as_68 : decode cX12_as 68 = .ok (.iaload, 1) := by decide +kernel
theorem dX12_as_69 : decode cX12_as 69 = .ok (.ireturn, 1) := by decide +kernel
theorem dX12_differ_0 : decode cX12_differ 0 = .ok (.aload_n 0, 1) := by decide +kernel
theorem dX12_differ_1 : decode cX12_differ 1 = .ok (.iload_n 1, 1) := by decide +kernel
theorem dX12_differ_2 : decode cX12_differ 2 = .ok (.invokevirtual 269, 3) := by decide +kernel
theorem dX12_differ_5 : decode cX12_differ 5 = .ok (.ifCond .eq 16, 3) := by decide +kernel
theorem dX12_differ_8 : decode cX12_differ 8 = .ok (.aload_n 0, 1) := by decide +kernel
theorem dX12_differ_9 : decode cX12_differ 9 = .ok (.iload_n 2, 1) := by decide +kernel
theorem dX12_differ_10 : decode cX12_differ 10 = .ok (.invokevirtual 269, 3) := by decide +kernel
theorem dX12_differ_13 : decode cX12_differ 13 = .ok (.ifCond .eq 8, 3) := by decide +kernel
theorem dX12_differ_16 : decode cX12_differ 16 = .ok (.iload_n 3, 1) := by decide +kernel
theorem dX12_differ_17 : decode cX12_differ 17 = .ok (.iconst (-1), 1) := by decide +kernel
theorem dX12_differ_18 : decode cX12_differ 18 = .ok (.if_icmp .ge 5, 3) := by decide +kernel
theorem dX12_differ_21 : decode cX12_differ 21 = .ok (.iconst (-1), 1) := by decide +kernel
theorem dX12_differ_22 : decode cX12_differ 22 = .ok (.ireturn, 1) := by decide +kernel
theorem dX12_differ_23 : decode cX12_differ 23 = .ok (.iconst 0, 1) := by decide +kernel
theorem dX12_differ_24 : decode cX12_differ 24 = .ok (.istore 4, 2) := by decide +kernel
theorem dX12_differ_26 : decode cX12_differ 26 = .ok (.iconst 0, 1) := by decide +kernel
theorem dX12_differ_27 : decode cX12_differ 27 = .ok (.istore 5, 2) := by decide +kernel
theorem dX12_differ_29 : decode cX12_differ 29 = .ok (.iload 5, 2) := by decide +kernel
theorem dX12_differ_31 : decode cX12_differ 31 = .ok (.aload_n 0, 1) := by decide +kernel
theorem dX12_differ_32 : decode cX12_differ 32 = .ok (.getfield 132, 3) := by decide +kernel
theorem dX12_differ_35 : decode cX12_differ 35 = .ok (.if_icmp .ge 141, 3) := by decide +kernel
theorem dX12_differ_38 : decode cX12_differ 38 = .ok (.iload 5, 2) := by decide +kernel
theorem dX12_differ_40 : decode cX12_differ 40 = .ok (.aload_n 0, 1) := by decide +kernel
theorem dX12_differ_41 : decode cX12_differ 41 = .ok (.getfield 88, 3) := by decide +kernel
theorem dX12_differ_44 : decode cX12_differ 44 = .ok (.iload_n 1, 1) := by decide +kernel
theorem dX12_differ_45 : decode cX12_differ 45 = .ok (.iaload, 1) := by decide +kernel
theorem dX12_differ_46 : decode cX12_differ 46 = .ok (.if_icmp .ge 7, 3) := by decide +kernel
theorem dX12_differ_49 : decode cX12_differ 49 = .ok (.iconst 1, 1) := by decide +kernel
theorem dX12_differ_50 : decode cX12_differ 50 = .ok (.goto 4, 3) := by decide +kernel
theorem dX12_differ_53 : decode cX12_differ 53 = .ok (.iconst 0, 1) := by decide +kernel
theorem dX12_differ_54 : decode cX12_differ 54 = .ok (.istore 6, 2) := by decide +kernel
theorem dX12_differ_56 : decode cX12_differ 56 = .ok (.iload 5, 2) := by decide +kernel
theorem dX12_differ_58 : decode cX12_differ 58 = .ok (.aload_n 0, 1) := by decide +kernel
theorem dX12_differ_59 : decode cX12_differ 59 = .ok (.getfield 88, 3) := by decide +kernel
theorem dX12_differ_62 : decode cX12_differ 62 = .ok (.iload_n 2, 1) := by decide +kernel
theorem dX12_differ_63 : decode cX12_differ 63 = .ok (.iaload, 1) := by decide +kernel
theorem dX12_differ_64 : decode cX12_differ 64 = .ok (.if_icmp .ge 7, 3) := by decide +kernel
theorem dX12_differ_67 : decode cX12_differ 67 = .ok (.iconst 1, 1) := by decide +kernel
theorem dX12_differ_68 : decode cX12_differ 68 = .ok (.goto 4, 3) := by decide +kernel
theorem dX12_differ_71 : decode cX12_differ 71 = .ok (.iconst 0, 1) := by decide +kernel
theorem dX12_differ_72 : decode cX12_differ 72 = .ok (.istore 7, 2) := by decide +kernel
theorem dX12_differ_74 : decode cX12_differ 74 = .ok (.iload 6, 2) := by decide +kernel
theorem dX12_differ_76 : decode cX12_differ 76 = .ok (.iload 7, 2) := by decide +kernel
theorem dX12_differ_78 : decode cX12_differ 78 = .ok (.if_icmp .ne 66, 3) := by decide +kernel
theorem dX12_differ_81 : decode cX12_differ 81 = .ok (.iload 6, 2) := by decide +kernel
theorem dX12_differ_83 : decode cX12_differ 83 = .ok (.ifCond .eq 57, 3) := by decide +kernel
theorem dX12_differ_86 : decode cX12_differ 86 = .ok (.aload_n 0, 1) := by decide +kernel
theorem dX12_differ_87 : decode cX12_differ 87 = .ok (.getfield 91, 3) := by decide +kernel
theorem dX12_differ_90 : decode cX12_differ 90 = .ok (.bipush 120, 2) := by decide +kernel
theorem dX12_differ_92 : decode cX12_differ 92 = .ok (.iload_n 1, 1) := by decide +kernel
theorem dX12_differ_93 : decode cX12_differ 93 = .ok (.imul, 1) := by decide +kernel
theorem dX12_differ_94 : decode cX12_differ 94 = .ok (.iload 5, 2) := by decide +kernel
theorem dX12_differ_96 : decode cX12_differ 96 = .ok (.iadd, 1) := by decide +kernel
theorem dX12_differ_97 : decode cX12_differ 97 = .ok (.iaload, 1) := by decide +kernel
theorem dX12_differ_98 : decode cX12_differ 98 = .ok (.aload_n 0, 1) := by decide +kernel
theorem dX12_differ_99 : decode cX12_differ 99 = .ok (.getfield 91, 3) := by decide +kernel
theorem dX12_differ_102 : decode cX12_differ 102 = .ok (.bipush 120, 2) := by decide +kernel
theorem dX12_differ_104 : decode cX12_differ 104 = .ok (.iload_n 2, 1) := by decide +kernel
theorem dX12_differ_105 : decode cX12_differ 105 = .ok (.imul, 1) := by decide +kernel
theorem dX12_differ_106 : decode cX12_differ 106 = .ok (.iload 5, 2) := by decide +kernel
theorem dX12_differ_108 : decode cX12_differ 108 = .ok (.iadd, 1) := by decide +kernel
theorem dX12_differ_109 : decode cX12_differ 109 = .ok (.iaload, 1) := by decide +kernel
theorem dX12_differ_110 : decode cX12_differ 110 = .ok (.if_icmp .ne 34, 3) := by decide +kernel
theorem dX12_differ_113 : decode cX12_differ 113 = .ok (.aload_n 0, 1) := by decide +kernel
theorem dX12_differ_114 : decode cX12_differ 114 = .ok (.getfield 94, 3) := by decide +kernel
theorem dX12_differ_117 : decode cX12_differ 117 = .ok (.bipush 120, 2) := by decide +kernel
theorem dX12_differ_119 : decode cX12_differ 119 = .ok (.iload_n 1, 1) := by decide +kernel
theorem dX12_differ_120 : decode cX12_differ 120 = .ok (.imul, 1) := by decide +kernel
theorem dX12_differ_121 : decode cX12_differ 121 = .ok (.iload 5, 2) := by decide +kernel
theorem dX12_differ_123 : decode cX12_differ 123 = .ok (.iadd, 1) := by decide +kernel
theorem dX12_differ_124 : decode cX12_differ 124 = .ok (.iaload, 1) := by decide +kernel
theorem dX12_differ_125 : decode cX12_differ 125 = .ok (.aload_n 0, 1) := by decide +kernel
theorem dX12_differ_126 : decode cX12_differ 126 = .ok (.getfield 94, 3) := by decide +kernel
theorem dX12_differ_129 : decode cX12_differ 129 = .ok (.bipush 120, 2) := by decide +kernel
theorem dX12_differ_131 : decode cX12_differ 131 = .ok (.iload_n 2, 1) := by decide +kernel
theorem dX12_differ_132 : decode cX12_differ 132 = .ok (.imul, 1) := by decide +kernel
theorem dX12_differ_133 : decode cX12_differ 133 = .ok (.iload 5, 2) := by decide +kernel
theorem dX12_differ_135 : decode cX12_differ 135 = .ok (.iadd, 1) := by decide +kernel
theorem dX12_differ_136 : decode cX12_differ 136 = .ok (.iaload, 1) := by decide +kernel
theorem dX12_differ_137 : decode cX12_differ 137 = .ok (.if_icmp .ne 7, 3) := by decide +kernel
theorem dX12_differ_140 : decode cX12_differ 140 = .ok (.iconst 1, 1) := by decide +kernel
theorem dX12_differ_141 : decode cX12_differ 141 = .ok (.goto 4, 3) := by decide +kernel
theorem dX12_differ_144 : decode cX12_differ 144 = .ok (.iconst 0, 1) := by decide +kernel
theorem dX12_differ_145 : decode cX12_differ 145 = .ok (.istore 8, 2) := by decide +kernel
theorem dX12_differ_147 : decode cX12_differ 147 = .ok (.iload 8, 2) := by decide +kernel
theorem dX12_differ_149 : decode cX12_differ 149 = .ok (.ifCond .eq 6, 3) := by decide +kernel
theorem dX12_differ_152 : decode cX12_differ 152 = .ok (.goto 18, 3) := by decide +kernel
theorem dX12_differ_155 : decode cX12_differ 155 = .ok (.iload 4, 2) := by decide +kernel
theorem dX12_differ_157 : decode cX12_differ 157 = .ok (.iload_n 3, 1) := by decide +kernel
theorem dX12_differ_158 : decode cX12_differ 158 = .ok (.if_icmp .ne 6, 3) := by decide +kernel
theorem dX12_differ_161 : decode cX12_differ 161 = .ok (.iload 5, 2) := by decide +kernel
theorem dX12_differ_163 : decode cX12_differ 163 = .ok (.ireturn, 1) := by decide +kernel
theorem dX12_differ_164 : decode cX12_differ 164 = .ok (.iload 4, 2) := by decide +kernel
theorem dX12_differ_166 : decode cX12_differ 166 = .ok (.iconst 1, 1) := by decide +kernel
theorem dX12_differ_167 : decode cX12_differ 167 = .ok (.iadd, 1) := by decide +kernel
theorem dX12_differ_168 : decode cX12_differ 168 = .ok (.istore 4, 2) := by decide +kernel
theorem dX12_differ_170 : decode cX12_differ 170 = .ok (.iinc 5 1, 3) := by decide +kernel
theorem dX12_differ_173 : decode cX12_differ 173 = .ok (.goto (-144), 3) := by decide +kernel
theorem dX12_differ_176 : decode cX12_differ 176 = .ok (.iload_n 3, 1) := by decide +kernel
theorem dX12_differ_177 : decode cX12_differ 177 = .ok (.iconst (-1), 1) := by decide +kernel
theorem dX12_differ_178 : decode cX12_differ 178 = .ok (.if_icmp .ne 8, 3) := by decide +kernel
theorem dX12_differ_181 : decode cX12_differ 181 = .ok (.iload 4, 2) := by decide +kernel
theorem dX12_differ_183 : decode cX12_differ 183 = .ok (.goto 4, 3) := by decide +kernel
theorem dX12_differ_186 : decode cX12_differ 186 = .ok (.iconst (-1), 1) := by decide +kernel
theorem dX12_differ_187 : decode cX12_differ 187 = .ok (.ireturn, 1) := by decide +kernel
theorem dX12_puts_0 : decode cX12_puts 0 = .ok (.aload_n 0, 1) := by decide +kernel
theorem dX12_puts_1 : decode cX12_puts 1 = .ok (.getfield 97, 3) := by decide +kernel
theorem dX12_puts_4 : decode cX12_puts 4 = .ok (.aload_n 0, 1) := by decide +kernel
theorem dX12_puts_5 : decode cX12_puts 5 = .ok (.getfield 272, 3) := by decide +kernel
theorem dX12_puts_8 : decode cX12_puts 8 = .ok (.iload_n 1, 1) := by decide +kernel
theorem dX12_puts_9 : decode cX12_puts 9 = .ok (.i2b, 1) := by decide +kernel
theorem dX12_puts_10 : decode cX12_puts 10 = .ok (.bastore, 1) := by decide +kernel
theorem dX12_puts_11 : decode cX12_puts 11 = .ok (.aload_n 0, 1) := by decide +kernel
theorem dX12_puts_12 : decode cX12_puts 12 = .ok (.aload_n 0, 1) := by decide +kernel
theorem dX12_puts_13 : decode cX12_puts 13 = .ok (.getfield 272, 3) := by decide +kernel
theorem dX12_puts_16 : decode cX12_puts 16 = .ok (.iconst 1, 1) := by decide +kernel
theorem dX12_puts_17 : decode cX12_puts 17 = .ok (.iadd, 1) := by decide +kernel
theorem dX12_puts_18 : decode cX12_puts 18 = .ok (.putfield 272, 3) := by decide +kernel
theorem dX12_puts_21 : decode cX12_puts 21 = .ok (.return_, 1) := by decide +kernel
theorem dX12_number_0 : decode cX12_number 0 = .ok (.iconst 1, 1) := by decide +kernel
theorem dX12_number_1 : decode cX12_number 1 = .ok (.istore_n 2, 1) := by decide +kernel
theorem dX12_number_2 : decode cX12_number 2 = .ok (.iload_n 1, 1) := by decide +kernel
theorem dX12_number_3 : decode cX12_number 3 = .ok (.iload_n 2, 1) := by decide +kernel
theorem dX12_number_4 : decode cX12_number 4 = .ok (.idiv, 1) := by decide +kernel
theorem dX12_number_5 : decode cX12_number 5 = .ok (.bipush 9, 2) := by decide +kernel
theorem dX12_number_7 : decode cX12_number 7 = .ok (.if_icmp .le 11, 3) := by decide +kernel
theorem dX12_number_10 : decode cX12_number 10 = .ok (.bipush 10, 2) := by decide +kernel
theorem dX12_number_12 : decode cX12_number 12 = .ok (.iload_n 2, 1) := by decide +kernel
theorem dX12_number_13 : decode cX12_number 13 = .ok (.imul, 1) := by decide +kernel
theorem dX12_number_14 : decode cX12_number 14 = .ok (.istore_n 2, 1) := by decide +kernel
theorem dX12_number_15 : decode cX12_number 15 = .ok (.goto (-13), 3) := by decide +kernel
theorem dX12_number_18 : decode cX12_number 18 = .ok (.iload_n 2, 1) := by decide +kernel
theorem dX12_number_19 : decode cX12_number 19 = .ok (.istore_n 3, 1) := by decide +kernel
theorem dX12_number_20 : decode cX12_number 20 = .ok (.iload_n 3, 1) := by decide +kernel
theorem dX12_number_21 : decode cX12_number 21 = .ok (.ifCond .le 24, 3) := by decide +kernel
theorem dX12_number_24 : decode cX12_number 24 = .ok (.aload_n 0, 1) := by decide +kernel
theorem dX12_number_25 : decode cX12_number 25 = .ok (.bipush 48, 2) := by decide +kernel
theorem dX12_number_27 : decode cX12_number 27 = .ok (.iload_n 1, 1) := by decide +kernel
theorem dX12_number_28 : decode cX12_number 28 = .ok (.iload_n 3, 1) := by decide +kernel
theorem dX12_number_29 : decode cX12_number 29 = .ok (.idiv, 1) := by decide +kernel
theorem dX12_number_30 : decode cX12_number 30 = .ok (.bipush 10, 2) := by decide +kernel
theorem dX12_number_32 : decode cX12_number 32 = .ok (.irem, 1) := by decide +kernel
theorem dX12_number_33 : decode cX12_number 33 = .ok (.iadd, 1) := by decide +kernel
theorem dX12_number_34 : decode cX12_number 34 = .ok (.invokevirtual 275, 3) := by decide +kernel
theorem dX12_number_37 : decode cX12_number 37 = .ok (.iload_n 3, 1) := by decide +kernel
theorem dX12_number_38 : decode cX12_number 38 = .ok (.bipush 10, 2) := by decide +kernel
theorem dX12_number_40 : decode cX12_number 40 = .ok (.idiv, 1) := by decide +kernel
theorem dX12_number_41 : decode cX12_number 41 = .ok (.istore_n 3, 1) := by decide +kernel
theorem dX12_number_42 : decode cX12_number 42 = .ok (.goto (-22), 3) := by decide +kernel
theorem dX12_number_45 : decode cX12_number 45 = .ok (.return_, 1) := by decide +kernel
theorem dX12_letters_0 : decode cX12_letters 0 = .ok (.iconst 0, 1) := by decide +kernel
theorem dX12_letters_1 : decode cX12_letters 1 = .ok (.istore_n 3, 1) := by decide +kernel
theorem dX12_letters_2 : decode cX12_letters 2 = .ok (.iload_n 3, 1) := by decide +kernel
theorem dX12_letters_3 : decode cX12_letters 3 = .ok (.lload_n 1, 1) := by decide +kernel
theorem dX12_letters_4 : decode cX12_letters 4 = .ok (.invokestatic 158, 3) := by decide +kernel
theorem dX12_letters_7 : decode cX12_letters 7 = .ok (.if_icmp .ge 18, 3) := by decide +kernel
theorem dX12_letters_10 : decode cX12_letters 10 = .ok (.aload_n 0, 1) := by decide +kernel
theorem dX12_letters_11 : decode cX12_letters 11 = .ok (.lload_n 1, 1) := by decide +kernel
theorem dX12_letters_12 : decode cX12_letters 12 = .ok (.iload_n 3, 1) := by decide +kernel
theorem dX12_letters_13 : decode cX12_letters 13 = .ok (.invokestatic 258, 3) := by decide +kernel
theorem dX12_letters_16 : decode cX12_letters 16 = .ok (.invokevirtual 275, 3) := by decide +kernel
theorem dX12_letters_19 : decode cX12_letters 19 = .ok (.iinc 3 1, 3) := by decide +kernel
theorem dX12_letters_22 : decode cX12_letters 22 = .ok (.goto (-20), 3) := by decide +kernel
theorem dX12_letters_25 : decode cX12_letters 25 = .ok (.return_, 1) := by decide +kernel
theorem dX12_mark_0 : decode cX12_mark 0 = .ok (.iconst 0, 1) := by decide +kernel
theorem dX12_mark_1 : decode cX12_mark 1 = .ok (.istore_n 2, 1) := by decide +kernel
theorem dX12_mark_2 : decode cX12_mark 2 = .ok (.iload_n 1, 1) := by decide +kernel
theorem dX12_mark_3 : decode cX12_mark 3 = .ok (.istore_n 3, 1) := by decide +kernel
theorem dX12_mark_4 : decode cX12_mark 4 = .ok (.iload_n 3, 1) := by decide +kernel
theorem dX12_mark_5 : decode cX12_mark 5 = .ok (.iconst (-1), 1) := by decide +kernel
theorem dX12_mark_6 : decode cX12_mark 6 = .ok (.if_icmp .eq 24, 3) := by decide +kernel
theorem dX12_mark_9 : decode cX12_mark 9 = .ok (.aload_n 0, 1) := by decide +kernel
theorem dX12_mark_10 : decode cX12_mark 10 = .ok (.getfield 100, 3) := by decide +kernel
theorem dX12_mark_13 : decode cX12_mark 13 = .ok (.iload_n 2, 1) := by decide +kernel
theorem dX12_mark_14 : decode cX12_mark 14 = .ok (.iload_n 3, 1) := by decide +kernel
theorem dX12_mark_15 : decode cX12_mark 15 = .ok (.iastore, 1) := by decide +kernel
theorem dX12_mark_16 : decode cX12_mark 16 = .ok (.iload_n 2, 1) := by decide +kernel
theorem dX12_mark_17 : decode cX12_mark 17 = .ok (.iconst 1, 1) := by decide +kernel
theorem dX12_mark_18 : decode cX12_mark 18 = .ok (.iadd, 1) := by decide +kernel
theorem dX12_mark_19 : decode cX12_mark 19 = .ok (.istore_n 2, 1) := by decide +kernel
theorem dX12_mark_20 : decode cX12_mark 20 = .ok (.aload_n 0, 1) := by decide +kernel
theorem dX12_mark_21 : decode cX12_mark 21 = .ok (.getfield 79, 3) := by decide +kernel
theorem dX12_mark_24 : decode cX12_mark 24 = .ok (.iload_n 3, 1) := by decide +kernel
theorem dX12_mark_25 : decode cX12_mark 25 = .ok (.iaload, 1) := by decide +kernel
theorem dX12_mark_26 : decode cX12_mark 26 = .ok (.istore_n 3, 1) := by decide +kernel
theorem dX12_mark_27 : decode cX12_mark 27 = .ok (.goto (-23), 3) := by decide +kernel
theorem dX12_mark_30 : decode cX12_mark 30 = .ok (.iload_n 2, 1) := by decide +kernel
theorem dX12_mark_31 : decode cX12_mark 31 = .ok (.iconst 1, 1) := by decide +kernel
theorem dX12_mark_32 : decode cX12_mark 32 = .ok (.isub, 1) := by decide +kernel
theorem dX12_mark_33 : decode cX12_mark 33 = .ok (.istore_n 3, 1) := by decide +kernel
theorem dX12_mark_34 : decode cX12_mark 34 = .ok (.iload_n 3, 1) := by decide +kernel
theorem dX12_mark_35 : decode cX12_mark 35 = .ok (.ifCond .lt 33, 3) := by decide +kernel
theorem dX12_mark_38 : decode cX12_mark 38 = .ok (.aload_n 0, 1) := by decide +kernel
theorem dX12_mark_39 : decode cX12_mark 39 = .ok (.aload_n 0, 1) := by decide +kernel
theorem dX12_mark_40 : decode cX12_mark 40 = .ok (.aload_n 0, 1) := by decide +kernel
theorem dX12_mark_41 : decode cX12_mark 41 = .ok (.getfield 100, 3) := by decide +kernel
theorem dX12_mark_44 : decode cX12_mark 44 = .ok (.iload_n 3, 1) := by decide +kernel
theorem dX12_mark_45 : decode cX12_mark 45 = .ok (.iaload, 1) := by decide +kernel
theorem dX12_mark_46 : decode cX12_mark 46 = .ok (.invokevirtual 240, 3) := by decide +kernel
theorem dX12_mark_49 : decode cX12_mark 49 = .ok (.invokevirtual 278, 3) := by decide +kernel
theorem dX12_mark_52 : decode cX12_mark 52 = .ok (.iload_n 3, 1) := by decide +kernel
theorem dX12_mark_53 : decode cX12_mark 53 = .ok (.ifCond .le 9, 3) := by decide +kernel
theorem dX12_mark_56 : decode cX12_mark 56 = .ok (.aload_n 0, 1) := by decide +kernel
theorem dX12_mark_57 : decode cX12_mark 57 = .ok (.bipush 46, 2) := by decide +kernel
theorem dX12_mark_59 : decode cX12_mark 59 = .ok (.invokevirtual 275, 3) := by decide +kernel
theorem dX12_mark_62 : decode cX12_mark 62 = .ok (.iinc 3 (-1), 3) := by decide +kernel
theorem dX12_mark_65 : decode cX12_mark 65 = .ok (.goto (-31), 3) := by decide +kernel
theorem dX12_mark_68 : decode cX12_mark 68 = .ok (.return_, 1) := by decide +kernel
theorem dX12_at_0 : decode cX12_at 0 = .ok (.iconst 0, 1) := by decide +kernel
theorem dX12_at_1 : decode cX12_at 1 = .ok (.istore 4, 2) := by decide +kernel
theorem dX12_at_3 : decode cX12_at 3 = .ok (.iload 4, 2) := by decide +kernel
theorem dX12_at_5 : decode cX12_at 5 = .ok (.bipush 40, 2) := by decide +kernel
theorem dX12_at_7 : decode cX12_at 7 = .ok (.if_icmp .ge 54, 3) := by decide +kernel
theorem dX12_at_10 : decode cX12_at 10 = .ok (.aload_n 0, 1) := by decide +kernel
theorem dX12_at_11 : decode cX12_at 11 = .ok (.getfield 73, 3) := by decide +kernel
theorem dX12_at_14 : decode cX12_at 14 = .ok (.iload 4, 2) := by decide +kernel
theorem dX12_at_16 : decode cX12_at 16 = .ok (.baload, 1) := by decide +kernel
theorem dX12_at_17 : decode cX12_at 17 = .ok (.ifCond .eq 38, 3) := by decide +kernel
theorem dX12_at_20 : decode cX12_at 20 = .ok (.aload_n 0, 1) := by decide +kernel
theorem dX12_at_21 : decode cX12_at 21 = .ok (.getfield 76, 3) := by decide +kernel
theorem dX12_at_24 : decode cX12_at 24 = .ok (.iload 4, 2) := by decide +kernel
theorem dX12_at_26 : decode cX12_at 26 = .ok (.iaload, 1) := by decide +kernel
theorem dX12_at_27 : decode cX12_at 27 = .ok (.iload_n 1, 1) := by decide +kernel
theorem dX12_at_28 : decode cX12_at 28 = .ok (.if_icmp .ne 27, 3) := by decide +kernel
theorem dX12_at_31 : decode cX12_at 31 = .ok (.aload_n 0, 1) := by decide +kernel
theorem dX12_at_32 : decode cX12_at 32 = .ok (.getfield 79, 3) := by decide +kernel
theorem dX12_at_35 : decode cX12_at 35 = .ok (.iload 4, 2) := by decide +kernel
theorem dX12_at_37 : decode cX12_at 37 = .ok (.iaload, 1) := by decide +kernel
theorem dX12_at_38 : decode cX12_at 38 = .ok (.iload_n 2, 1) := by decide +kernel
theorem dX12_at_39 : decode cX12_at 39 = .ok (.if_icmp .ne 16, 3) := by decide +kernel
theorem dX12_at_42 : decode cX12_at 42 = .ok (.aload_n 0, 1) := by decide +kernel
theorem dX12_at_43 : decode cX12_at 43 = .ok (.iload 4, 2) := by decide +kernel
theorem dX12_at_45 : decode cX12_at 45 = .ok (.invokevirtual 240, 3) := by decide +kernel
theorem dX12_at_48 : decode cX12_at 48 = .ok (.iload_n 3, 1) := by decide +kernel
theorem dX12_at_49 : decode cX12_at 49 = .ok (.if_icmp .ne 6, 3) := by decide +kernel
theorem dX12_at_52 : decode cX12_at 52 = .ok (.iload 4, 2) := by decide +kernel
theorem dX12_at_54 : decode cX12_at 54 = .ok (.ireturn, 1) := by decide +kernel
theorem dX12_at_55 : decode cX12_at 55 = .ok (.iinc 4 1, 3) := by decide +kernel
theorem dX12_at_58 : decode cX12_at 58 = .ok (.goto (-55), 3) := by decide +kernel
theorem dX12_at_61 : decode cX12_at 61 = .ok (.iconst (-1), 1) := by decide +kernel
theorem dX12_at_62 : decode cX12_at 62 = .ok (.ireturn, 1) := by decide +kernel
theorem dX12_prints_0 : decode cX12_prints 0 = .ok (.aload_n 0, 1) := by decide +kernel
theorem dX12_prints_1 : decode cX12_prints 1 = .ok (.bipush 32, 2) := by decide +kernel
theorem dX12_prints_3 : decode cX12_prints 3 = .ok (.invokevirtual 275, 3) := by decide +kernel
theorem dX12_prints_6 : decode cX12_prints 6 = .ok (.aload_n 0, 1) := by decide +kernel
theorem dX12_prints_7 : decode cX12_prints 7 = .ok (.iload_n 1, 1) := by decide +kernel
theorem dX12_prints_8 : decode cX12_prints 8 = .ok (.invokevirtual 281, 3) := by decide +kernel
theorem dX12_prints_11 : decode cX12_prints 11 = .ok (.aload_n 0, 1) := by decide +kernel
theorem dX12_prints_12 : decode cX12_prints 12 = .ok (.bipush 40, 2) := by decide +kernel
theorem dX12_prints_14 : decode cX12_prints 14 = .ok (.invokevirtual 275, 3) := by decide +kernel
theorem dX12_prints_17 : decode cX12_prints 17 = .ok (.aload_n 0, 1) := by decide +kernel
theorem dX12_prints_18 : decode cX12_prints 18 = .ok (.iload_n 1, 1) := by decide +kernel
theorem dX12_prints_19 : decode cX12_prints 19 = .ok (.iconst 0, 1) := by decide +kernel
theorem dX12_prints_20 : decode cX12_prints 20 = .ok (.invokevirtual 230, 3) := by decide +kernel
theorem dX12_prints_23 : decode cX12_prints 23 = .ok (.aload_n 0, 1) := by decide +kernel
theorem dX12_prints_24 : decode cX12_prints 24 = .ok (.getfield 211, 3) := by decide +kernel
theorem dX12_prints_27 : decode cX12_prints 27 = .ok (.istore_n 2, 1) := by decide +kernel
theorem dX12_prints_28 : decode cX12_prints 28 = .ok (.aload_n 0, 1) := by decide +kernel
theorem dX12_prints_29 : decode cX12_prints 29 = .ok (.getfield 221, 3) := by decide +kernel
theorem dX12_prints_32 : decode cX12_prints 32 = .ok (.istore_n 3, 1) := by decide +kernel
theorem dX12_prints_33 : decode cX12_prints 33 = .ok (.iload_n 2, 1) := by decide +kernel
theorem dX12_prints_34 : decode cX12_prints 34 = .ok (.ifCond .le 36, 3) := by decide +kernel
theorem dX12_prints_37 : decode cX12_prints 37 = .ok (.aload_n 0, 1) := by decide +kernel
theorem dX12_prints_38 : decode cX12_prints 38 = .ok (.aload_n 0, 1) := by decide +kernel
theorem dX12_prints_39 : decode cX12_prints 39 = .ok (.getfield 218, 3) := by decide +kernel
theorem dX12_prints_42 : decode cX12_prints 42 = .ok (.invokevirtual 278, 3) := by decide +kernel
theorem dX12_prints_45 : decode cX12_prints 45 = .ok (.iload_n 3, 1) := by decide +kernel
theorem dX12_prints_46 : decode cX12_prints 46 = .ok (.aload_n 0, 1) := by decide +kernel
theorem dX12_prints_47 : decode cX12_prints 47 = .ok (.getfield 218, 3) := by decide +kernel
theorem dX12_prints_50 : decode cX12_prints 50 = .ok (.if_icmp .eq 14, 3) := by decide +kernel
theorem dX12_prints_53 : decode cX12_prints 53 = .ok (.aload_n 0, 1) := by decide +kernel
theorem dX12_prints_54 : decode cX12_prints 54 = .ok (.bipush 45, 2) := by decide +kernel
theorem dX12_prints_56 : decode cX12_prints 56 = .ok (.invokevirtual 275, 3) := by decide +kernel
theorem dX12_prints_59 : decode cX12_prints 59 = .ok (.aload_n 0, 1) := by decide +kernel
theorem dX12_prints_60 : decode cX12_prints 60 = .ok (.iload_n 3, 1) := by decide +kernel
theorem dX12_prints_61 : decode cX12_prints 61 = .ok (.invokevirtual 278, 3) := by decide +kernel
theorem dX12_prints_64 : decode cX12_prints 64 = .ok (.aload_n 0, 1) := by decide +kernel
theorem dX12_prints_65 : decode cX12_prints 65 = .ok (.bipush 44, 2) := by decide +kernel
theorem dX12_prints_67 : decode cX12_prints 67 = .ok (.invokevirtual 275, 3) := by decide +kernel
theorem dX12_prints_70 : decode cX12_prints 70 = .ok (.aload_n 0, 1) := by decide +kernel
theorem dX12_prints_71 : decode cX12_prints 71 = .ok (.iload_n 2, 1) := by decide +kernel
theorem dX12_prints_72 : decode cX12_prints 72 = .ok (.invokevirtual 278, 3) := by decide +kernel
theorem dX12_prints_75 : decode cX12_prints 75 = .ok (.aload_n 0, 1) := by decide +kernel
theorem dX12_prints_76 : decode cX12_prints 76 = .ok (.bipush 41, 2) := by decide +kernel
theorem dX12_prints_78 : decode cX12_prints 78 = .ok (.invokevirtual 275, 3) := by decide +kernel
theorem dX12_prints_81 : decode cX12_prints 81 = .ok (.iconst 0, 1) := by decide +kernel
theorem dX12_prints_82 : decode cX12_prints 82 = .ok (.istore 4, 2) := by decide +kernel
theorem dX12_prints_84 : decode cX12_prints 84 = .ok (.iload 4, 2) := by decide +kernel
theorem dX12_prints_86 : decode cX12_prints 86 = .ok (.aload_n 0, 1) := by decide +kernel
theorem dX12_prints_87 : decode cX12_prints 87 = .ok (.getfield 196, 3) := by decide +kernel
theorem dX12_prints_90 : decode cX12_prints 90 = .ok (.if_icmp .ge 80, 3) := by decide +kernel
theorem dX12_prints_93 : decode cX12_prints 93 = .ok (.aload_n 0, 1) := by decide +kernel
theorem dX12_prints_94 : decode cX12_prints 94 = .ok (.getfield 82, 3) := by decide +kernel
theorem dX12_prints_97 : decode cX12_prints 97 = .ok (.iload 4, 2) := by decide +kernel
theorem dX12_prints_99 : decode cX12_prints 99 = .ok (.iaload, 1) := by decide +kernel
theorem dX12_prints_100 : decode cX12_prints 100 = .ok (.iload_n 1, 1) := by decide +kernel
theorem dX12_prints_101 : decode cX12_prints 101 = .ok (.if_icmp .ne 63, 3) := by decide +kernel
theorem dX12_prints_104 : decode cX12_prints 104 = .ok (.aload_n 0, 1) := by decide +kernel
theorem dX12_prints_105 : decode cX12_prints 105 = .ok (.getfield 85, 3) := by decide +kernel
theorem dX12_prints_108 : decode cX12_prints 108 = .ok (.iload 4, 2) := by decide +kernel
theorem dX12_prints_110 : decode cX12_prints 110 = .ok (.iaload, 1) := by decide +kernel
theorem dX12_prints_111 : decode cX12_prints 111 = .ok (.iconst (-1), 1) := by decide +kernel
theorem dX12_prints_112 : decode cX12_prints 112 = .ok (.if_icmp .ne 6, 3) := by decide +kernel
theorem dX12_prints_115 : decode cX12_prints 115 = .ok (.goto 49, 3) := by decide +kernel
theorem dX12_prints_118 : decode cX12_prints 118 = .ok (.aload_n 0, 1) := by decide +kernel
theorem dX12_prints_119 : decode cX12_prints 119 = .ok (.bipush 62, 2) := by decide +kernel
theorem dX12_prints_121 : decode cX12_prints 121 = .ok (.invokevirtual 275, 3) := by decide +kernel
theorem dX12_prints_124 : decode cX12_prints 124 = .ok (.aload_n 0, 1) := by decide +kernel
theorem dX12_prints_125 : decode cX12_prints 125 = .ok (.aload_n 0, 1) := by decide +kernel
theorem dX12_prints_126 : decode cX12_prints 126 = .ok (.getfield 64, 3) := by decide +kernel
theorem dX12_prints_129 : decode cX12_prints 129 = .ok (.iconst 5, 1) := by decide +kernel
theorem dX12_prints_130 : decode cX12_prints 130 = .ok (.aload_n 0, 1) := by decide +kernel
theorem dX12_prints_131 : decode cX12_prints 131 = .ok (.getfield 76, 3) := by decide +kernel
theorem dX12_prints_134 : decode cX12_prints 134 = .ok (.aload_n 0, 1) := by decide +kernel
theorem dX12_prints_135 : decode cX12_prints 135 = .ok (.getfield 85, 3) := by decide +kernel
theorem dX12_prints_138 : decode cX12_prints 138 = .ok (.iload 4, 2) := by decide +kernel
theorem dX12_prints_140 : decode cX12_prints 140 = .ok (.iaload, 1) := by decide +kernel
theorem dX12_prints_141 : decode cX12_prints 141 = .ok (.iaload, 1) := by decide +kernel
theorem dX12_prints_142 : decode cX12_prints 142 = .ok (.imul, 1) := by decide +kernel
theorem dX12_prints_143 : decode cX12_prints 143 = .ok (.laload, 1) := by decide +kernel
theorem dX12_prints_144 : decode cX12_prints 144 = .ok (.invokevirtual 284, 3) := by decide +kernel
theorem dX12_prints_147 : decode cX12_prints 147 = .ok (.aload_n 0, 1) := by decide +kernel
theorem dX12_prints_148 : decode cX12_prints 148 = .ok (.bipush 32, 2) := by decide +kernel
theorem dX12_prints_150 : decode cX12_prints 150 = .ok (.invokevirtual 275, 3) := by decide +kernel
theorem dX12_prints_153 : decode cX12_prints 153 = .ok (.aload_n 0, 1) := by decide +kernel
theorem dX12_prints_154 : decode cX12_prints 154 = .ok (.aload_n 0, 1) := by decide +kernel
theorem dX12_prints_155 : decode cX12_prints 155 = .ok (.getfield 85, 3) := by decide +kernel
theorem dX12_prints_158 : decode cX12_prints 158 = .ok (.iload 4, 2) := by decide +kernel
theorem dX12_prints_160 : decode cX12_prints 160 = .ok (.iaload, 1) := by decide +kernel
theorem dX12_prints_161 : decode cX12_prints 161 = .ok (.invokevirtual 281, 3) := by decide +kernel
theorem dX12_prints_164 : decode cX12_prints 164 = .ok (.iinc 4 1, 3) := by decide +kernel
theorem dX12_prints_167 : decode cX12_prints 167 = .ok (.goto (-83), 3) := by decide +kernel
theorem dX12_prints_170 : decode cX12_prints 170 = .ok (.return_, 1) := by decide +kernel
theorem dX12_heap_0 : decode cX12_heap 0 = .ok (.iconst 0, 1) := by decide +kernel
theorem dX12_heap_1 : decode cX12_heap 1 = .ok (.istore_n 2, 1) := by decide +kernel
theorem dX12_heap_2 : decode cX12_heap 2 = .ok (.iconst 0, 1) := by decide +kernel
theorem dX12_heap_3 : decode cX12_heap 3 = .ok (.istore_n 3, 1) := by decide +kernel
theorem dX12_heap_4 : decode cX12_heap 4 = .ok (.iload_n 3, 1) := by decide +kernel
theorem dX12_heap_5 : decode cX12_heap 5 = .ok (.aload_n 0, 1) := by decide +kernel
theorem dX12_heap_6 : decode cX12_heap 6 = .ok (.getfield 132, 3) := by decide +kernel
theorem dX12_heap_9 : decode cX12_heap 9 = .ok (.if_icmp .ge 37, 3) := by decide +kernel
theorem dX12_heap_12 : decode cX12_heap 12 = .ok (.iload_n 2, 1) := by decide +kernel
theorem dX12_heap_13 : decode cX12_heap 13 = .ok (.aload_n 0, 1) := by decide +kernel
theorem dX12_heap_14 : decode cX12_heap 14 = .ok (.getfield 42, 3) := by decide +kernel
theorem dX12_heap_17 : decode cX12_heap 17 = .ok (.iload_n 3, 1) := by decide +kernel
theorem dX12_heap_18 : decode cX12_heap 18 = .ok (.iaload, 1) := by decide +kernel
theorem dX12_heap_19 : decode cX12_heap 19 = .ok (.iload_n 1, 1) := by decide +kernel
theorem dX12_heap_20 : decode cX12_heap 20 = .ok (.if_icmp .ne 17, 3) := by decide +kernel
theorem dX12_heap_23 : decode cX12_heap 23 = .ok (.aload_n 0, 1) := by decide +kernel
theorem dX12_heap_24 : decode cX12_heap 24 = .ok (.getfield 45, 3) := by decide +kernel
theorem dX12_heap_27 : decode cX12_heap 27 = .ok (.iload_n 3, 1) := by decide +kernel
theorem dX12_heap_28 : decode cX12_heap 28 = .ok (.iaload, 1) := by decide +kernel
theorem dX12_heap_29 : decode cX12_heap 29 = .ok (.iconst (-1), 1) := by decide +kernel
theorem dX12_heap_30 : decode cX12_heap 30 = .ok (.if_icmp .ne 7, 3) := by decide +kernel
theorem dX12_heap_33 : decode cX12_heap 33 = .ok (.iconst 1, 1) := by decide +kernel
theorem dX12_heap_34 : decode cX12_heap 34 = .ok (.goto 4, 3) := by decide +kernel
theorem dX12_heap_37 : decode cX12_heap 37 = .ok (.iconst 0, 1) := by decide +kernel
theorem dX12_heap_38 : decode cX12_heap 38 = .ok (.iadd, 1) := by decide +kernel
theorem dX12_heap_39 : decode cX12_heap 39 = .ok (.istore_n 2, 1) := by decide +kernel
theorem dX12_heap_40 : decode cX12_heap 40 = .ok (.iinc 3 1, 3) := by decide +kernel
theorem dX12_heap_43 : decode cX12_heap 43 = .ok (.goto (-39), 3) := by decide +kernel
theorem dX12_heap_46 : decode cX12_heap 46 = .ok (.iload_n 2, 1) := by decide +kernel
theorem dX12_heap_47 : decode cX12_heap 47 = .ok (.ireturn, 1) := by decide +kernel
theorem dX12_print_0 : decode cX12_print 0 = .ok (.aload_n 0, 1) := by decide +kernel
theorem dX12_print_1 : decode cX12_print 1 = .ok (.iload_n 1, 1) := by decide +kernel
theorem dX12_print_2 : decode cX12_print 2 = .ok (.invokevirtual 152, 3) := by decide +kernel
theorem dX12_print_5 : decode cX12_print 5 = .ok (.ifCond .ne 5, 3) := by decide +kernel
theorem dX12_print_8 : decode cX12_print 8 = .ok (.iconst (-1), 1) := by decide +kernel
theorem dX12_print_9 : decode cX12_print 9 = .ok (.ireturn, 1) := by decide +kernel
theorem dX12_print_10 : decode cX12_print 10 = .ok (.aload_n 0, 1) := by decide +kernel
theorem dX12_print_11 : decode cX12_print 11 = .ok (.iconst 0, 1) := by decide +kernel
theorem dX12_print_12 : decode cX12_print 12 = .ok (.putfield 272, 3) := by decide +kernel
theorem dX12_print_15 : decode cX12_print 15 = .ok (.aload_n 0, 1) := by decide +kernel
theorem dX12_print_16 : decode cX12_print 16 = .ok (.aload_n 0, 1) := by decide +kernel
theorem dX12_print_17 : decode cX12_print 17 = .ok (.getfield 64, 3) := by decide +kernel
theorem dX12_print_20 : decode cX12_print 20 = .ok (.iconst 5, 1) := by decide +kernel
theorem dX12_print_21 : decode cX12_print 21 = .ok (.iload_n 1, 1) := by decide +kernel
theorem dX12_print_22 : decode cX12_print 22 = .ok (.imul, 1) := by decide +kernel
theorem dX12_print_23 : decode cX12_print 23 = .ok (.laload, 1) := by decide +kernel
theorem dX12_print_24 : decode cX12_print 24 = .ok (.invokevirtual 284, 3) := by decide +kernel
theorem dX12_print_27 : decode cX12_print 27 = .ok (.aload_n 0, 1) := by decide +kernel
theorem dX12_print_28 : decode cX12_print 28 = .ok (.bipush 58, 2) := by decide +kernel
theorem dX12_print_30 : decode cX12_print 30 = .ok (.invokevirtual 275, 3) := by decide +kernel
theorem dX12_print_33 : decode cX12_print 33 = .ok (.aload_n 0, 1) := by decide +kernel
theorem dX12_print_34 : decode cX12_print 34 = .ok (.iload_n 1, 1) := by decide +kernel
theorem dX12_print_35 : decode cX12_print 35 = .ok (.iconst (-1), 1) := by decide +kernel
theorem dX12_print_36 : decode cX12_print 36 = .ok (.iconst 1, 1) := by decide +kernel
theorem dX12_print_37 : decode cX12_print 37 = .ok (.invokevirtual 288, 3) := by decide +kernel
theorem dX12_print_40 : decode cX12_print 40 = .ok (.istore_n 2, 1) := by decide +kernel
theorem dX12_print_41 : decode cX12_print 41 = .ok (.iload_n 2, 1) := by decide +kernel
theorem dX12_print_42 : decode cX12_print 42 = .ok (.iconst (-1), 1) := by decide +kernel
theorem dX12_print_43 : decode cX12_print 43 = .ok (.if_icmp .eq 68, 3) := by decide +kernel
theorem dX12_print_46 : decode cX12_print 46 = .ok (.aload_n 0, 1) := by decide +kernel
theorem dX12_print_47 : decode cX12_print 47 = .ok (.iload_n 2, 1) := by decide +kernel
theorem dX12_print_48 : decode cX12_print 48 = .ok (.invokevirtual 292, 3) := by decide +kernel
theorem dX12_print_51 : decode cX12_print 51 = .ok (.aload_n 0, 1) := by decide +kernel
theorem dX12_print_52 : decode cX12_print 52 = .ok (.iload_n 1, 1) := by decide +kernel
theorem dX12_print_53 : decode cX12_print 53 = .ok (.iload_n 2, 1) := by decide +kernel
theorem dX12_print_54 : decode cX12_print 54 = .ok (.iconst 1, 1) := by decide +kernel
theorem dX12_print_55 : decode cX12_print 55 = .ok (.invokevirtual 288, 3) := by decide +kernel
theorem dX12_print_58 : decode cX12_print 58 = .ok (.istore_n 3, 1) := by decide +kernel
theorem dX12_print_59 : decode cX12_print 59 = .ok (.iload_n 2, 1) := by decide +kernel
theorem dX12_print_60 : decode cX12_print 60 = .ok (.istore 4, 2) := by decide +kernel
theorem dX12_print_62 : decode cX12_print 62 = .ok (.iload_n 3, 1) := by decide +kernel
theorem dX12_print_63 : decode cX12_print 63 = .ok (.iconst (-1), 1) := by decide +kernel
theorem dX12_print_64 : decode cX12_print 64 = .ok (.if_icmp .ne 42, 3) := by decide +kernel
theorem dX12_print_67 : decode cX12_print 67 = .ok (.iload 4, 2) := by decide +kernel
theorem dX12_print_69 : decode cX12_print 69 = .ok (.iconst (-1), 1) := by decide +kernel
theorem dX12_print_70 : decode cX12_print 70 = .ok (.if_icmp .eq 36, 3) := by decide +kernel
theorem dX12_print_73 : decode cX12_print 73 = .ok (.aload_n 0, 1) := by decide +kernel
theorem dX12_print_74 : decode cX12_print 74 = .ok (.iload_n 1, 1) := by decide +kernel
theorem dX12_print_75 : decode cX12_print 75 = .ok (.aload_n 0, 1) := by decide +kernel
theorem dX12_print_76 : decode cX12_print 76 = .ok (.getfield 79, 3) := by decide +kernel
theorem dX12_print_79 : decode cX12_print 79 = .ok (.iload 4, 2) := by decide +kernel
theorem dX12_print_81 : decode cX12_print 81 = .ok (.iaload, 1) := by decide +kernel
theorem dX12_print_82 : decode cX12_print 82 = .ok (.aload_n 0, 1) := by decide +kernel
theorem dX12_print_83 : decode cX12_print 83 = .ok (.iload 4, 2) := by decide +kernel
theorem dX12_print_85 : decode cX12_print 85 = .ok (.invokevirtual 240, 3) := by decide +kernel
theorem dX12_print_88 : decode cX12_print 88 = .ok (.iconst 1, 1) := by decide +kernel
theorem dX12_print_89 : decode cX12_print 89 = .ok (.iadd, 1) := by decide +kernel
theorem dX12_print_90 : decode cX12_print 90 = .ok (.invokevirtual 288, 3) := by decide +kernel
theorem dX12_print_93 : decode cX12_print 93 = .ok (.istore_n 3, 1) := by decide +kernel
theorem dX12_print_94 : decode cX12_print 94 = .ok (.aload_n 0, 1) := by decide +kernel
theorem dX12_print_95 : decode cX12_print 95 = .ok (.getfield 79, 3) := by decide +kernel
theorem dX12_print_98 : decode cX12_print 98 = .ok (.iload 4, 2) := by decide +kernel
theorem dX12_print_100 : decode cX12_print 100 = .ok (.iaload, 1) := by decide +kernel
theorem dX12_print_101 : decode cX12_print 101 = .ok (.istore 4, 2) := by decide +kernel
theorem dX12_print_103 : decode cX12_print 103 = .ok (.goto (-41), 3) := by decide +kernel
theorem dX12_print_106 : decode cX12_print 106 = .ok (.iload_n 3, 1) := by decide +kernel
theorem dX12_print_107 : decode cX12_print 107 = .ok (.istore_n 2, 1) := by decide +kernel
theorem dX12_print_108 : decode cX12_print 108 = .ok (.goto (-67), 3) := by decide +kernel
theorem dX12_print_111 : decode cX12_print 111 = .ok (.aload_n 0, 1) := by decide +kernel
theorem dX12_print_112 : decode cX12_print 112 = .ok (.iload_n 1, 1) := by decide +kernel
theorem dX12_print_113 : decode cX12_print 113 = .ok (.invokevirtual 295, 3) := by decide +kernel
theorem dX12_print_116 : decode cX12_print 116 = .ok (.ifCond .le 24, 3) := by decide +kernel
theorem dX12_print_119 : decode cX12_print 119 = .ok (.aload_n 0, 1) := by decide +kernel
theorem dX12_print_120 : decode cX12_print 120 = .ok (.bipush 32, 2) := by decide +kernel
theorem dX12_print_122 : decode cX12_print 122 = .ok (.invokevirtual 275, 3) := by decide +kernel
theorem dX12_print_125 : decode cX12_print 125 = .ok (.aload_n 0, 1) := by decide +kernel
theorem dX12_print_126 : decode cX12_print 126 = .ok (.bipush 43, 2) := by decide +kernel
theorem dX12_print_128 : decode cX12_print 128 = .ok (.invokevirtual 275, 3) := by decide +kernel
theorem dX12_print_131 : decode cX12_print 131 = .ok (.aload_n 0, 1) := by decide +kernel
theorem dX12_print_132 : decode cX12_print 132 = .ok (.aload_n 0, 1) := by decide +kernel
theorem dX12_print_133 : decode cX12_print 133 = .ok (.iload_n 1, 1) := by decide +kernel
theorem dX12_print_134 : decode cX12_print 134 = .ok (.invokevirtual 295, 3) := by decide +kernel
theorem dX12_print_137 : decode cX12_print 137 = .ok (.invokevirtual 278, 3) := by decide +kernel
theorem dX12_print_140 : decode cX12_print 140 = .ok (.aload_n 0, 1) := by decide +kernel
theorem dX12_print_141 : decode cX12_print 141 = .ok (.getfield 272, 3) := by decide +kernel
theorem dX12_print_144 : decode cX12_print 144 = .ok (.ireturn, 1) := by decide +kernel
theorem dX12_octet_0 : decode cX12_octet 0 = .ok (.iload_n 1, 1) := by decide +kernel
theorem dX12_octet_1 : decode cX12_octet 1 = .ok (.ifCond .lt 20, 3) := by decide +kernel
theorem dX12_octet_4 : decode cX12_octet 4 = .ok (.iload_n 1, 1) := by decide +kernel
theorem dX12_octet_5 : decode cX12_octet 5 = .ok (.aload_n 0, 1) := by decide +kernel
theorem dX12_octet_6 : decode cX12_octet 6 = .ok (.getfield 272, 3) := by decide +kernel
theorem dX12_octet_9 : decode cX12_octet 9 = .ok (.if_icmp .ge 12, 3) := by decide +kernel
theorem dX12_octet_12 : decode cX12_octet 12 = .ok (.aload_n 0, 1) := by decide +kernel
theorem dX12_octet_13 : decode cX12_octet 13 = .ok (.getfield 97, 3) := by decide +kernel
theorem dX12_octet_16 : decode cX12_octet 16 = .ok (.iload_n 1, 1) := by decide +kernel
theorem dX12_octet_17 : decode cX12_octet 17 = .ok (.baload, 1) := by decide +kernel
theorem dX12_octet_18 : decode cX12_octet 18 = .ok (.goto 4, 3) := by decide +kernel
theorem dX12_octet_21 : decode cX12_octet 21 = .ok (.iconst (-1), 1) := by decide +kernel
theorem dX12_octet_22 : decode cX12_octet 22 = .ok (.ireturn, 1) := by decide +kernel
theorem dX12_count_0 : decode cX12_count 0 = .ok (.iconst 0, 1) := by decide +kernel
theorem dX12_count_1 : decode cX12_count 1 = .ok (.istore_n 2, 1) := by decide +kernel
theorem dX12_count_2 : decode cX12_count 2 = .ok (.iload_n 1, 1) := by decide +kernel
theorem dX12_count_3 : decode cX12_count 3 = .ok (.tableswitch 219 0 12 #[65, 70, 75, 80, 85, 118, 123, 128, 164, 198, 203, 208, 214], 65) := by decide +kernel
theorem dX12_count_68 : decode cX12_count 68 = .ok (.aload_n 0, 1) := by decide +kernel
theorem dX12_count_69 : decode cX12_count 69 = .ok (.getfield 111, 3) := by decide +kernel
theorem dX12_count_72 : decode cX12_count 72 = .ok (.ireturn, 1) := by decide +kernel
theorem dX12_count_73 : decode cX12_count 73 = .ok (.aload_n 0, 1) := by decide +kernel
theorem dX12_count_74 : decode cX12_count 74 = .ok (.getfield 132, 3) := by decide +kernel
theorem dX12_count_77 : decode cX12_count 77 = .ok (.ireturn, 1) := by decide +kernel
theorem dX12_count_78 : decode cX12_count 78 = .ok (.aload_n 0, 1) := by decide +kernel
theorem dX12_count_79 : decode cX12_count 79 = .ok (.getfield 145, 3) := by decide +kernel
theorem dX12_count_82 : decode cX12_count 82 = .ok (.ireturn, 1) := by decide +kernel
theorem dX12_count_83 : decode cX12_count 83 = .ok (.aload_n 0, 1) := by decide +kernel
theorem dX12_count_84 : decode cX12_count 84 = .ok (.getfield 155, 3) := by decide +kernel
theorem dX12_count_87 : decode cX12_count 87 = .ok (.ireturn, 1) := by decide +kernel
theorem dX12_count_88 : decode cX12_count 88 = .ok (.iconst 0, 1) := by decide +kernel
theorem dX12_count_89 : decode cX12_count 89 = .ok (.istore_n 3, 1) := by decide +kernel
theorem dX12_count_90 : decode cX12_count 90 = .ok (.iload_n 3, 1) := by decide +kernel
theorem dX12_count_91 : decode cX12_count 91 = .ok (.bipush 40, 2) := by decide +kernel
theorem dX12_count_93 : decode cX12_count 93 = .ok (.if_icmp .ge 26, 3) := by decide +kernel
theorem dX12_count_96 : decode cX12_count 96 = .ok (.iload_n 2, 1) := by decide +kernel
theorem dX12_count_97 : decode cX12_count 97 = .ok (.aload_n 0, 1) := by decide +kernel
theorem dX12_count_98 : decode cX12_count 98 = .ok (.getfield 73, 3) := by decide +kernel
theorem dX12_count_101 : decode cX12_count 101 = .ok (.iload_n 3, 1) := by decide +kernel
theorem dX12_count_102 : decode cX12_count 102 = .ok (.baload, 1) := by decide +kernel
theorem dX12_count_103 : decode cX12_count 103 = .ok (.ifCond .eq 7, 3) := by decide +kernel
theorem dX12_count_106 : decode cX12_count 106 = .ok (.iconst 1, 1) := by decide +kernel
theorem dX12_count_107 : decode cX12_count 107 = .ok (.goto 4, 3) := by decide +kernel
theorem dX12_count_110 : decode cX12_count 110 = .ok (.iconst 0, 1) := by decide +kernel
theorem dX12_count_111 : decode cX12_count 111 = .ok (.iadd, 1) := by decide +kernel
theorem dX12_count_112 : decode cX12_count 112 = .ok (.istore_n 2, 1) := by decide +kernel
theorem dX12_count_113 : decode cX12_count 113 = .ok (.iinc 3 1, 3) := by decide +kernel
theorem dX12_count_116 : decode cX12_count 116 = .ok (.goto (-26), 3) := by decide +kernel
theorem dX12_count_119 : decode cX12_count 119 = .ok (.iload_n 2, 1) := by decide +kernel
theorem dX12_count_120 : decode cX12_count 120 = .ok (.ireturn, 1) := by decide +kernel
theorem dX12_count_121 : decode cX12_count 121 = .ok (.aload_n 0, 1) := by decide +kernel
theorem dX12_count_122 : decode cX12_count 122 = .ok (.getfield 196, 3) := by decide +kernel
theorem dX12_count_125 : decode cX12_count 125 = .ok (.ireturn, 1) := by decide +kernel
theorem dX12_count_126 : decode cX12_count 126 = .ok (.aload_n 0, 1) := by decide +kernel
theorem dX12_count_127 : decode cX12_count 127 = .ok (.invokevirtual 262, 3) := by decide +kernel
theorem dX12_count_130 : decode cX12_count 130 = .ok (.ireturn, 1) := by decide +kernel
theorem dX12_count_131 : decode cX12_count 131 = .ok (.iconst 0, 1) := by decide +kernel
theorem dX12_count_132 : decode cX12_count 132 = .ok (.istore_n 3, 1) := by decide +kernel
theorem dX12_count_133 : decode cX12_count 133 = .ok (.iload_n 3, 1) := by decide +kernel
theorem dX12_count_134 : decode cX12_count 134 = .ok (.aload_n 0, 1) := by decide +kernel
theorem dX12_count_135 : decode cX12_count 135 = .ok (.getfield 132, 3) := by decide +kernel
theorem dX12_count_138 : decode cX12_count 138 = .ok (.if_icmp .ge 27, 3) := by decide +kernel
theorem dX12_count_141 : decode cX12_count 141 = .ok (.iload_n 2, 1) := by decide +kernel
theorem dX12_count_142 : decode cX12_count 142 = .ok (.aload_n 0, 1) := by decide +kernel
theorem dX12_count_143 : decode cX12_count 143 = .ok (.getfield 42, 3) := by decide +kernel
theorem dX12_count_146 : decode cX12_count 146 = .ok (.iload_n 3, 1) := by decide +kernel
theorem dX12_count_147 : decode cX12_count 147 = .ok (.iaload, 1) := by decide +kernel
theorem dX12_count_148 : decode cX12_count 148 = .ok (.iconst (-1), 1) := by decide +kernel
theorem dX12_count_149 : decode cX12_count 149 = .ok (.if_icmp .ne 7, 3) := by decide +kernel
theorem dX12_count_152 : decode cX12_count 152 = .ok (.iconst 1, 1) := by decide +kernel
theorem dX12_count_153 : decode cX12_count 153 = .ok (.goto 4, 3) := by decide +kernel
theorem dX12_count_156 : decode cX12_count 156 = .ok (.iconst 0, 1) := by decide +kernel
theorem dX12_count_157 : decode cX12_count 157 = .ok (.iadd, 1) := by decide +kernel
theorem dX12_count_158 : decode cX12_count 158 = .ok (.istore_n 2, 1) := by decide +kernel
theorem dX12_count_159 : decode cX12_count 159 = .ok (.iinc 3 1, 3) := by decide +kernel
theorem dX12_count_162 : decode cX12_count 162 = .ok (.goto (-29), 3) := by decide +kernel
theorem dX12_count_165 : decode cX12_count 165 = .ok (.iload_n 2, 1) := by decide +kernel
theorem dX12_count_166 : decode cX12_count 166 = .ok (.ireturn, 1) := by decide +kernel
theorem dX12_count_167 : decode cX12_count 167 = .ok (.iconst 0, 1) := by decide +kernel
theorem dX12_count_168 : decode cX12_count 168 = .ok (.istore_n 3, 1) := by decide +kernel
theorem dX12_count_169 : decode cX12_count 169 = .ok (.iload_n 3, 1) := by decide +kernel
theorem dX12_count_170 : decode cX12_count 170 = .ok (.aload_n 0, 1) := by decide +kernel
theorem dX12_count_171 : decode cX12_count 171 = .ok (.getfield 132, 3) := by decide +kernel
theorem dX12_count_174 : decode cX12_count 174 = .ok (.if_icmp .ge 25, 3) := by decide +kernel
theorem dX12_count_177 : decode cX12_count 177 = .ok (.iload_n 2, 1) := by decide +kernel
theorem dX12_count_178 : decode cX12_count 178 = .ok (.aload_n 0, 1) := by decide +kernel
theorem dX12_count_179 : decode cX12_count 179 = .ok (.iload_n 3, 1) := by decide +kernel
theorem dX12_count_180 : decode cX12_count 180 = .ok (.invokevirtual 255, 3) := by decide +kernel
theorem dX12_count_183 : decode cX12_count 183 = .ok (.ifCond .eq 7, 3) := by decide +kernel
theorem dX12_count_186 : decode cX12_count 186 = .ok (.iconst 1, 1) := by decide +kernel
theorem dX12_count_187 : decode cX12_count 187 = .ok (.goto 4, 3) := by decide +kernel
theorem dX12_count_190 : decode cX12_count 190 = .ok (.iconst 0, 1) := by decide +kernel
theorem dX12_count_191 : decode cX12_count 191 = .ok (.iadd, 1) := by decide +kernel
theorem dX12_count_192 : decode cX12_count 192 = .ok (.istore_n 2, 1) := by decide +kernel
theorem dX12_count_193 : decode cX12_count 193 = .ok (.iinc 3 1, 3) := by decide +kernel
theorem dX12_count_196 : decode cX12_count 196 = .ok (.goto (-27), 3) := by decide +kernel
theorem dX12_count_199 : decode cX12_count 199 = .ok (.iload_n 2, 1) := by decide +kernel
theorem dX12_count_200 : decode cX12_count 200 = .ok (.ireturn, 1) := by decide +kernel
theorem dX12_count_201 : decode cX12_count 201 = .ok (.aload_n 0, 1) := by decide +kernel
theorem dX12_count_202 : decode cX12_count 202 = .ok (.getfield 266, 3) := by decide +kernel
theorem dX12_count_205 : decode cX12_count 205 = .ok (.ireturn, 1) := by decide +kernel
theorem dX12_count_206 : decode cX12_count 206 = .ok (.aload_n 0, 1) := by decide +kernel
theorem dX12_count_207 : decode cX12_count 207 = .ok (.getfield 122, 3) := by decide +kernel
theorem dX12_count_210 : decode cX12_count 210 = .ok (.ireturn, 1) := by decide +kernel
theorem dX12_count_211 : decode cX12_count 211 = .ok (.aload_n 0, 1) := by decide +kernel
theorem dX12_count_212 : decode cX12_count 212 = .ok (.iconst (-1), 1) := by decide +kernel
theorem dX12_count_213 : decode cX12_count 213 = .ok (.invokevirtual 252, 3) := by decide +kernel
theorem dX12_count_216 : decode cX12_count 216 = .ok (.ireturn, 1) := by decide +kernel
theorem dX12_count_217 : decode cX12_count 217 = .ok (.aload_n 0, 1) := by decide +kernel
theorem dX12_count_218 : decode cX12_count 218 = .ok (.getfield 103, 3) := by decide +kernel
theorem dX12_count_221 : decode cX12_count 221 = .ok (.ireturn, 1) := by decide +kernel
theorem dX12_count_222 : decode cX12_count 222 = .ok (.iload_n 1, 1) := by decide +kernel
theorem dX12_count_223 : decode cX12_count 223 = .ok (.bipush 20, 2) := by decide +kernel
theorem dX12_count_225 : decode cX12_count 225 = .ok (.if_icmp .lt 25, 3) := by decide +kernel
theorem dX12_count_228 : decode cX12_count 228 = .ok (.iload_n 1, 1) := by decide +kernel
theorem dX12_count_229 : decode cX12_count 229 = .ok (.bipush 20, 2) := by decide +kernel
theorem dX12_count_231 : decode cX12_count 231 = .ok (.aload_n 0, 1) := by decide +kernel
theorem dX12_count_232 : decode cX12_count 232 = .ok (.getfield 145, 3) := by decide +kernel
theorem dX12_count_235 : decode cX12_count 235 = .ok (.iadd, 1) := by decide +kernel
theorem dX12_count_236 : decode cX12_count 236 = .ok (.if_icmp .ge 14, 3) := by decide +kernel
theorem dX12_count_239 : decode cX12_count 239 = .ok (.aload_n 0, 1) := by decide +kernel
theorem dX12_count_240 : decode cX12_count 240 = .ok (.iload_n 1, 1) := by decide +kernel
theorem dX12_count_241 : decode cX12_count 241 = .ok (.bipush 20, 2) := by decide +kernel
theorem dX12_count_243 : decode cX12_count 243 = .ok (.isub, 1) := by decide +kernel
theorem dX12_count_244 : decode cX12_count 244 = .ok (.invokevirtual 295, 3) := by decide +kernel
theorem dX12_count_247 : decode cX12_count 247 = .ok (.goto 4, 3) := by decide +kernel
theorem dX12_count_250 : decode cX12_count 250 = .ok (.iconst (-1), 1) := by decide +kernel
theorem dX12_count_251 : decode cX12_count 251 = .ok (.ireturn, 1) := by decide +kernel
