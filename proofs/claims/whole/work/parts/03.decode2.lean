theorem dX8_seek_121 : decode cX8_seek 121 = .ok (.return_, 1) := by decide +kernel
theorem dX8_extend_0 : decode cX8_extend 0 = .ok (.iload_n 2, 1) := by decide +kernel
theorem dX8_extend_1 : decode cX8_extend 1 = .ok (.aload_n 0, 1) := by decide +kernel
theorem dX8_extend_2 : decode cX8_extend 2 = .ok (.getfield 32, 3) := by decide +kernel
theorem dX8_extend_5 : decode cX8_extend 5 = .ok (.if_icmp .lt 10, 3) := by decide +kernel
theorem dX8_extend_8 : decode cX8_extend 8 = .ok (.aload_n 0, 1) := by decide +kernel
theorem dX8_extend_9 : decode cX8_extend 9 = .ok (.lload 5, 2) := by decide +kernel
theorem dX8_extend_11 : decode cX8_extend 11 = .ok (.invokevirtual 74, 3) := by decide +kernel
theorem dX8_extend_14 : decode cX8_extend 14 = .ok (.return_, 1) := by decide +kernel
theorem dX8_extend_15 : decode cX8_extend 15 = .ok (.iconst 0, 1) := by decide +kernel
theorem dX8_extend_16 : decode cX8_extend 16 = .ok (.istore 7, 2) := by decide +kernel
theorem dX8_extend_18 : decode cX8_extend 18 = .ok (.iload 7, 2) := by decide +kernel
theorem dX8_extend_20 : decode cX8_extend 20 = .ok (.aload_n 1, 1) := by decide +kernel
theorem dX8_extend_21 : decode cX8_extend 21 = .ok (.getfield 52, 3) := by decide +kernel
theorem dX8_extend_24 : decode cX8_extend 24 = .ok (.iconst 2, 1) := by decide +kernel
theorem dX8_extend_25 : decode cX8_extend 25 = .ok (.iaload, 1) := by decide +kernel
theorem dX8_extend_26 : decode cX8_extend 26 = .ok (.if_icmp .ge 94, 3) := by decide +kernel
theorem dX8_extend_29 : decode cX8_extend 29 = .ok (.aload_n 0, 1) := by decide +kernel
theorem dX8_extend_30 : decode cX8_extend 30 = .ok (.getfield 23, 3) := by decide +kernel
theorem dX8_extend_33 : decode cX8_extend 33 = .ok (.iload_n 2, 1) := by decide +kernel
theorem dX8_extend_34 : decode cX8_extend 34 = .ok (.aaload, 1) := by decide +kernel
theorem dX8_extend_35 : decode cX8_extend 35 = .ok (.iload 7, 2) := by decide +kernel
theorem dX8_extend_37 : decode cX8_extend 37 = .ok (.laload, 1) := by decide +kernel
theorem dX8_extend_38 : decode cX8_extend 38 = .ok (.lconst 0, 1) := by decide +kernel
theorem dX8_extend_39 : decode cX8_extend 39 = .ok (.lcmp, 1) := by decide +kernel
theorem dX8_extend_40 : decode cX8_extend 40 = .ok (.ifCond .le 74, 3) := by decide +kernel
theorem dX8_extend_43 : decode cX8_extend 43 = .ok (.iload_n 3, 1) := by decide +kernel
theorem dX8_extend_44 : decode cX8_extend 44 = .ok (.iload 7, 2) := by decide +kernel
theorem dX8_extend_46 : decode cX8_extend 46 = .ok (.ishr, 1) := by decide +kernel
theorem dX8_extend_47 : decode cX8_extend 47 = .ok (.iconst 1, 1) := by decide +kernel
theorem dX8_extend_48 : decode cX8_extend 48 = .ok (.iand, 1) := by decide +kernel
theorem dX8_extend_49 : decode cX8_extend 49 = .ok (.ifCond .ne 65, 3) := by decide +kernel
theorem dX8_extend_52 : decode cX8_extend 52 = .ok (.aload_n 1, 1) := by decide +kernel
theorem dX8_extend_53 : decode cX8_extend 53 = .ok (.iload 4, 2) := by decide +kernel
theorem dX8_extend_55 : decode cX8_extend 55 = .ok (.aload_n 1, 1) := by decide +kernel
theorem dX8_extend_56 : decode cX8_extend 56 = .ok (.getfield 78, 3) := by decide +kernel
theorem dX8_extend_59 : decode cX8_extend 59 = .ok (.iload 7, 2) := by decide +kernel
theorem dX8_extend_61 : decode cX8_extend 61 = .ok (.iaload, 1) := by decide +kernel
theorem dX8_extend_62 : decode cX8_extend 62 = .ok (.invokevirtual 81, 3) := by decide +kernel
theorem dX8_extend_65 : decode cX8_extend 65 = .ok (.ifCond .eq 49, 3) := by decide +kernel
theorem dX8_extend_68 : decode cX8_extend 68 = .ok (.aload_n 0, 1) := by decide +kernel
theorem dX8_extend_69 : decode cX8_extend 69 = .ok (.getfield 15, 3) := by decide +kernel
theorem dX8_extend_72 : decode cX8_extend 72 = .ok (.iload_n 2, 1) := by decide +kernel
theorem dX8_extend_73 : decode cX8_extend 73 = .ok (.iload 7, 2) := by decide +kernel
theorem dX8_extend_75 : decode cX8_extend 75 = .ok (.iastore, 1) := by decide +kernel
theorem dX8_extend_76 : decode cX8_extend 76 = .ok (.aload_n 0, 1) := by decide +kernel
theorem dX8_extend_77 : decode cX8_extend 77 = .ok (.aload_n 1, 1) := by decide +kernel
theorem dX8_extend_78 : decode cX8_extend 78 = .ok (.iload_n 2, 1) := by decide +kernel
theorem dX8_extend_79 : decode cX8_extend 79 = .ok (.iconst 1, 1) := by decide +kernel
theorem dX8_extend_80 : decode cX8_extend 80 = .ok (.iadd, 1) := by decide +kernel
theorem dX8_extend_81 : decode cX8_extend 81 = .ok (.iload_n 3, 1) := by decide +kernel
theorem dX8_extend_82 : decode cX8_extend 82 = .ok (.iconst 1, 1) := by decide +kernel
theorem dX8_extend_83 : decode cX8_extend 83 = .ok (.iload 7, 2) := by decide +kernel
theorem dX8_extend_85 : decode cX8_extend 85 = .ok (.ishl, 1) := by decide +kernel
theorem dX8_extend_86 : decode cX8_extend 86 = .ok (.ior, 1) := by decide +kernel
theorem dX8_extend_87 : decode cX8_extend 87 = .ok (.aload_n 1, 1) := by decide +kernel
theorem dX8_extend_88 : decode cX8_extend 88 = .ok (.getfield 78, 3) := by decide +kernel
theorem dX8_extend_91 : decode cX8_extend 91 = .ok (.iload 7, 2) := by decide +kernel
theorem dX8_extend_93 : decode cX8_extend 93 = .ok (.iaload, 1) := by decide +kernel
theorem dX8_extend_94 : decode cX8_extend 94 = .ok (.lload 5, 2) := by decide +kernel
theorem dX8_extend_96 : decode cX8_extend 96 = .ok (.aload_n 0, 1) := by decide +kernel
theorem dX8_extend_97 : decode cX8_extend 97 = .ok (.getfield 42, 3) := by decide +kernel
theorem dX8_extend_100 : decode cX8_extend 100 = .ok (.aload_n 0, 1) := by decide +kernel
theorem dX8_extend_101 : decode cX8_extend 101 = .ok (.getfield 23, 3) := by decide +kernel
theorem dX8_extend_104 : decode cX8_extend 104 = .ok (.iload_n 2, 1) := by decide +kernel
theorem dX8_extend_105 : decode cX8_extend 105 = .ok (.aaload, 1) := by decide +kernel
theorem dX8_extend_106 : decode cX8_extend 106 = .ok (.iload 7, 2) := by decide +kernel
theorem dX8_extend_108 : decode cX8_extend 108 = .ok (.laload, 1) := by decide +kernel
theorem dX8_extend_109 : decode cX8_extend 109 = .ok (.lsub, 1) := by decide +kernel
theorem dX8_extend_110 : decode cX8_extend 110 = .ok (.lmul, 1) := by decide +kernel
theorem dX8_extend_111 : decode cX8_extend 111 = .ok (.invokevirtual 70, 3) := by decide +kernel
theorem dX8_extend_114 : decode cX8_extend 114 = .ok (.iinc 7 1, 3) := by decide +kernel
theorem dX8_extend_117 : decode cX8_extend 117 = .ok (.goto (-99), 3) := by decide +kernel
theorem dX8_extend_120 : decode cX8_extend 120 = .ok (.return_, 1) := by decide +kernel
theorem dX8_settle_0 : decode cX8_settle 0 = .ok (.aload_n 0, 1) := by decide +kernel
theorem dX8_settle_1 : decode cX8_settle 1 = .ok (.getfield 46, 3) := by decide +kernel
theorem dX8_settle_4 : decode cX8_settle 4 = .ok (.ifCond .eq 12, 3) := by decide +kernel
theorem dX8_settle_7 : decode cX8_settle 7 = .ok (.lload_n 1, 1) := by decide +kernel
theorem dX8_settle_8 : decode cX8_settle 8 = .ok (.aload_n 0, 1) := by decide +kernel
theorem dX8_settle_9 : decode cX8_settle 9 = .ok (.getfield 49, 3) := by decide +kernel
theorem dX8_settle_12 : decode cX8_settle 12 = .ok (.lcmp, 1) := by decide +kernel
theorem dX8_settle_13 : decode cX8_settle 13 = .ok (.ifCond .ge 36, 3) := by decide +kernel
theorem dX8_settle_16 : decode cX8_settle 16 = .ok (.aload_n 0, 1) := by decide +kernel
theorem dX8_settle_17 : decode cX8_settle 17 = .ok (.lload_n 1, 1) := by decide +kernel
theorem dX8_settle_18 : decode cX8_settle 18 = .ok (.putfield 49, 3) := by decide +kernel
theorem dX8_settle_21 : decode cX8_settle 21 = .ok (.iconst 0, 1) := by decide +kernel
theorem dX8_settle_22 : decode cX8_settle 22 = .ok (.istore_n 3, 1) := by decide +kernel
theorem dX8_settle_23 : decode cX8_settle 23 = .ok (.iload_n 3, 1) := by decide +kernel
theorem dX8_settle_24 : decode cX8_settle 24 = .ok (.aload_n 0, 1) := by decide +kernel
theorem dX8_settle_25 : decode cX8_settle 25 = .ok (.getfield 32, 3) := by decide +kernel
theorem dX8_settle_28 : decode cX8_settle 28 = .ok (.if_icmp .ge 21, 3) := by decide +kernel
theorem dX8_settle_31 : decode cX8_settle 31 = .ok (.aload_n 0, 1) := by decide +kernel
theorem dX8_settle_32 : decode cX8_settle 32 = .ok (.getfield 9, 3) := by decide +kernel
theorem dX8_settle_35 : decode cX8_settle 35 = .ok (.iload_n 3, 1) := by decide +kernel
theorem dX8_settle_36 : decode cX8_settle 36 = .ok (.aload_n 0, 1) := by decide +kernel
theorem dX8_settle_37 : decode cX8_settle 37 = .ok (.getfield 15, 3) := by decide +kernel
theorem dX8_settle_40 : decode cX8_settle 40 = .ok (.iload_n 3, 1) := by decide +kernel
theorem dX8_settle_41 : decode cX8_settle 41 = .ok (.iaload, 1) := by decide +kernel
theorem dX8_settle_42 : decode cX8_settle 42 = .ok (.iastore, 1) := by decide +kernel
theorem dX8_settle_43 : decode cX8_settle 43 = .ok (.iinc 3 1, 3) := by decide +kernel
theorem dX8_settle_46 : decode cX8_settle 46 = .ok (.goto (-23), 3) := by decide +kernel
theorem dX8_settle_49 : decode cX8_settle 49 = .ok (.aload_n 0, 1) := by decide +kernel
theorem dX8_settle_50 : decode cX8_settle 50 = .ok (.dup, 1) := by decide +kernel
theorem dX8_settle_51 : decode cX8_settle 51 = .ok (.getfield 46, 3) := by decide +kernel
theorem dX8_settle_54 : decode cX8_settle 54 = .ok (.iconst 1, 1) := by decide +kernel
theorem dX8_settle_55 : decode cX8_settle 55 = .ok (.iadd, 1) := by decide +kernel
theorem dX8_settle_56 : decode cX8_settle 56 = .ok (.putfield 46, 3) := by decide +kernel
theorem dX8_settle_59 : decode cX8_settle 59 = .ok (.return_, 1) := by decide +kernel
theorem dX8_wholeOfRow_0 : decode cX8_wholeOfRow 0 = .ok (.lconst 1, 1) := by decide +kernel
theorem dX8_wholeOfRow_1 : decode cX8_wholeOfRow 1 = .ok (.lstore_n 1, 1) := by decide +kernel
theorem dX8_wholeOfRow_2 : decode cX8_wholeOfRow 2 = .ok (.iconst 0, 1) := by decide +kernel
theorem dX8_wholeOfRow_3 : decode cX8_wholeOfRow 3 = .ok (.istore_n 3, 1) := by decide +kernel
theorem dX8_wholeOfRow_4 : decode cX8_wholeOfRow 4 = .ok (.iload_n 3, 1) := by decide +kernel
theorem dX8_wholeOfRow_5 : decode cX8_wholeOfRow 5 = .ok (.aload_n 0, 1) := by decide +kernel
theorem dX8_wholeOfRow_6 : decode cX8_wholeOfRow 6 = .ok (.getfield 32, 3) := by decide +kernel
theorem dX8_wholeOfRow_9 : decode cX8_wholeOfRow 9 = .ok (.if_icmp .ge 16, 3) := by decide +kernel
theorem dX8_wholeOfRow_12 : decode cX8_wholeOfRow 12 = .ok (.lload_n 1, 1) := by decide +kernel
theorem dX8_wholeOfRow_13 : decode cX8_wholeOfRow 13 = .ok (.aload_n 0, 1) := by decide +kernel
theorem dX8_wholeOfRow_14 : decode cX8_wholeOfRow 14 = .ok (.getfield 42, 3) := by decide +kernel
theorem dX8_wholeOfRow_17 : decode cX8_wholeOfRow 17 = .ok (.lmul, 1) := by decide +kernel
theorem dX8_wholeOfRow_18 : decode cX8_wholeOfRow 18 = .ok (.lstore_n 1, 1) := by decide +kernel
theorem dX8_wholeOfRow_19 : decode cX8_wholeOfRow 19 = .ok (.iinc 3 1, 3) := by decide +kernel
theorem dX8_wholeOfRow_22 : decode cX8_wholeOfRow 22 = .ok (.goto (-18), 3) := by decide +kernel
theorem dX8_wholeOfRow_25 : decode cX8_wholeOfRow 25 = .ok (.lload_n 1, 1) := by decide +kernel
theorem dX8_wholeOfRow_26 : decode cX8_wholeOfRow 26 = .ok (.lreturn, 1) := by decide +kernel
theorem dX8_anyOfBest_0 : decode cX8_anyOfBest 0 = .ok (.aload_n 0, 1) := by decide +kernel
theorem dX8_anyOfBest_1 : decode cX8_anyOfBest 1 = .ok (.getfield 46, 3) := by decide +kernel
theorem dX8_anyOfBest_4 : decode cX8_anyOfBest 4 = .ok (.ifCond .ne 7, 3) := by decide +kernel
theorem dX8_anyOfBest_7 : decode cX8_anyOfBest 7 = .ok (.lconst 0, 1) := by decide +kernel
theorem dX8_anyOfBest_8 : decode cX8_anyOfBest 8 = .ok (.goto 12, 3) := by decide +kernel
theorem dX8_anyOfBest_11 : decode cX8_anyOfBest 11 = .ok (.aload_n 0, 1) := by decide +kernel
theorem dX8_anyOfBest_12 : decode cX8_anyOfBest 12 = .ok (.invokevirtual 85, 3) := by decide +kernel
theorem dX8_anyOfBest_15 : decode cX8_anyOfBest 15 = .ok (.aload_n 0, 1) := by decide +kernel
theorem dX8_anyOfBest_16 : decode cX8_anyOfBest 16 = .ok (.getfield 49, 3) := by decide +kernel
theorem dX8_anyOfBest_19 : decode cX8_anyOfBest 19 = .ok (.lsub, 1) := by decide +kernel
theorem dX8_anyOfBest_20 : decode cX8_anyOfBest 20 = .ok (.lreturn, 1) := by decide +kernel
theorem dX8_sumOfBest_0 : decode cX8_sumOfBest 0 = .ok (.lconst 0, 1) := by decide +kernel
theorem dX8_sumOfBest_1 : decode cX8_sumOfBest 1 = .ok (.lstore_n 1, 1) := by decide +kernel
theorem dX8_sumOfBest_2 : decode cX8_sumOfBest 2 = .ok (.iconst 0, 1) := by decide +kernel
theorem dX8_sumOfBest_3 : decode cX8_sumOfBest 3 = .ok (.istore_n 3, 1) := by decide +kernel
theorem dX8_sumOfBest_4 : decode cX8_sumOfBest 4 = .ok (.iload_n 3, 1) := by decide +kernel
theorem dX8_sumOfBest_5 : decode cX8_sumOfBest 5 = .ok (.aload_n 0, 1) := by decide +kernel
theorem dX8_sumOfBest_6 : decode cX8_sumOfBest 6 = .ok (.getfield 32, 3) := by decide +kernel
theorem dX8_sumOfBest_9 : decode cX8_sumOfBest 9 = .ok (.if_icmp .ge 32, 3) := by decide +kernel
theorem dX8_sumOfBest_12 : decode cX8_sumOfBest 12 = .ok (.aload_n 0, 1) := by decide +kernel
theorem dX8_sumOfBest_13 : decode cX8_sumOfBest 13 = .ok (.getfield 46, 3) := by decide +kernel
theorem dX8_sumOfBest_16 : decode cX8_sumOfBest 16 = .ok (.ifCond .le 25, 3) := by decide +kernel
theorem dX8_sumOfBest_19 : decode cX8_sumOfBest 19 = .ok (.lload_n 1, 1) := by decide +kernel
theorem dX8_sumOfBest_20 : decode cX8_sumOfBest 20 = .ok (.aload_n 0, 1) := by decide +kernel
theorem dX8_sumOfBest_21 : decode cX8_sumOfBest 21 = .ok (.getfield 23, 3) := by decide +kernel
theorem dX8_sumOfBest_24 : decode cX8_sumOfBest 24 = .ok (.iload_n 3, 1) := by decide +kernel
theorem dX8_sumOfBest_25 : decode cX8_sumOfBest 25 = .ok (.aaload, 1) := by decide +kernel
theorem dX8_sumOfBest_26 : decode cX8_sumOfBest 26 = .ok (.aload_n 0, 1) := by decide +kernel
theorem dX8_sumOfBest_27 : decode cX8_sumOfBest 27 = .ok (.getfield 9, 3) := by decide +kernel
theorem dX8_sumOfBest_30 : decode cX8_sumOfBest 30 = .ok (.iload_n 3, 1) := by decide +kernel
theorem dX8_sumOfBest_31 : decode cX8_sumOfBest 31 = .ok (.iaload, 1) := by decide +kernel
theorem dX8_sumOfBest_32 : decode cX8_sumOfBest 32 = .ok (.laload, 1) := by decide +kernel
theorem dX8_sumOfBest_33 : decode cX8_sumOfBest 33 = .ok (.ladd, 1) := by decide +kernel
theorem dX8_sumOfBest_34 : decode cX8_sumOfBest 34 = .ok (.lstore_n 1, 1) := by decide +kernel
theorem dX8_sumOfBest_35 : decode cX8_sumOfBest 35 = .ok (.iinc 3 1, 3) := by decide +kernel
theorem dX8_sumOfBest_38 : decode cX8_sumOfBest 38 = .ok (.goto (-34), 3) := by decide +kernel
theorem dX8_sumOfBest_41 : decode cX8_sumOfBest 41 = .ok (.lload_n 1, 1) := by decide +kernel
theorem dX8_sumOfBest_42 : decode cX8_sumOfBest 42 = .ok (.lreturn, 1) := by decide +kernel
theorem dX9_init_0 : decode cX9_init 0 = .ok (.aload_n 0, 1) := by decide +kernel
theorem dX9_init_1 : decode cX9_init 1 = .ok (.invokespecial 3, 3) := by decide +kernel
theorem dX9_init_4 : decode cX9_init 4 = .ok (.aload_n 0, 1) := by decide +kernel
theorem dX9_init_5 : decode cX9_init 5 = .ok (.sipush 900, 3) := by decide +kernel
theorem dX9_init_8 : decode cX9_init 8 = .ok (.newarray .byte, 2) := by decide +kernel
theorem dX9_init_10 : decode cX9_init 10 = .ok (.putfield 9, 3) := by decide +kernel
theorem dX9_init_13 : decode cX9_init 13 = .ok (.aload_n 0, 1) := by decide +kernel
theorem dX9_init_14 : decode cX9_init 14 = .ok (.iconst 0, 1) := by decide +kernel
theorem dX9_init_15 : decode cX9_init 15 = .ok (.putfield 15, 3) := by decide +kernel
theorem dX9_init_18 : decode cX9_init 18 = .ok (.return_, 1) := by decide +kernel
theorem dX9_hasRoom_0 : decode cX9_hasRoom 0 = .ok (.aload_n 0, 1) := by decide +kernel
theorem dX9_hasRoom_1 : decode cX9_hasRoom 1 = .ok (.getfield 15, 3) := by decide +kernel
theorem dX9_hasRoom_4 : decode cX9_hasRoom 4 = .ok (.iload_n 1, 1) := by decide +kernel
theorem dX9_hasRoom_5 : decode cX9_hasRoom 5 = .ok (.iadd, 1) := by decide +kernel
theorem dX9_hasRoom_6 : decode cX9_hasRoom 6 = .ok (.sipush 900, 3) := by decide +kernel
theorem dX9_hasRoom_9 : decode cX9_hasRoom 9 = .ok (.if_icmp .gt 7, 3) := by decide +kernel
theorem dX9_hasRoom_12 : decode cX9_hasRoom 12 = .ok (.iconst 1, 1) := by decide +kernel
theorem dX9_hasRoom_13 : decode cX9_hasRoom 13 = .ok (.goto 4, 3) := by decide +kernel
theorem dX9_hasRoom_16 : decode cX9_hasRoom 16 = .ok (.iconst 0, 1) := by decide +kernel
theorem dX9_hasRoom_17 : decode cX9_hasRoom 17 = .ok (.ireturn, 1) := by decide +kernel
theorem dX9_addFour_0 : decode cX9_addFour 0 = .ok (.aload_n 0, 1) := by decide +kernel
theorem dX9_addFour_1 : decode cX9_addFour 1 = .ok (.iconst 4, 1) := by decide +kernel
theorem dX9_addFour_2 : decode cX9_addFour 2 = .ok (.invokevirtual 19, 3) := by decide +kernel
theorem dX9_addFour_5 : decode cX9_addFour 5 = .ok (.ifCond .ne 4, 3) := by decide +kernel
theorem dX9_addFour_8 : decode cX9_addFour 8 = .ok (.return_, 1) := by decide +kernel
theorem dX9_addFour_9 : decode cX9_addFour 9 = .ok (.bipush 24, 2) := by decide +kernel
theorem dX9_addFour_11 : decode cX9_addFour 11 = .ok (.istore_n 2, 1) := by decide +kernel
theorem dX9_addFour_12 : decode cX9_addFour 12 = .ok (.iload_n 2, 1) := by decide +kernel
theorem dX9_addFour_13 : decode cX9_addFour 13 = .ok (.ifCond .lt 32, 3) := by decide +kernel
theorem dX9_addFour_16 : decode cX9_addFour 16 = .ok (.aload_n 0, 1) := by decide +kernel
theorem dX9_addFour_17 : decode cX9_addFour 17 = .ok (.getfield 9, 3) := by decide +kernel
theorem dX9_addFour_20 : decode cX9_addFour 20 = .ok (.aload_n 0, 1) := by decide +kernel
theorem dX9_addFour_21 : decode cX9_addFour 21 = .ok (.getfield 15, 3) := by decide +kernel
theorem dX9_addFour_24 : decode cX9_addFour 24 = .ok (.iload_n 1, 1) := by decide +kernel
theorem dX9_addFour_25 : decode cX9_addFour 25 = .ok (.iload_n 2, 1) := by decide +kernel
theorem dX9_addFour_26 : decode cX9_addFour 26 = .ok (.iushr, 1) := by decide +kernel
theorem dX9_addFour_27 : decode cX9_addFour 27 = .ok (.i2b, 1) := by decide +kernel
theorem dX9_addFour_28 : decode cX9_addFour 28 = .ok (.bastore, 1) := by decide +kernel
theorem dX9_addFour_29 : decode cX9_addFour 29 = .ok (.aload_n 0, 1) := by decide +kernel
theorem dX9_addFour_30 : decode cX9_addFour 30 = .ok (.dup, 1) := by decide +kernel
theorem dX9_addFour_31 : decode cX9_addFour 31 = .ok (.getfield 15, 3) := by decide +kernel
theorem dX9_addFour_34 : decode cX9_addFour 34 = .ok (.iconst 1, 1) := by decide +kernel
theorem dX9_addFour_35 : decode cX9_addFour 35 = .ok (.iadd, 1) := by decide +kernel
theorem dX9_addFour_36 : decode cX9_addFour 36 = .ok (.putfield 15, 3) := by decide +kernel
theorem dX9_addFour_39 : decode cX9_addFour 39 = .ok (.iinc 2 (-8), 3) := by decide +kernel
theorem dX9_addFour_42 : decode cX9_addFour 42 = .ok (.goto (-30), 3) := by decide +kernel
theorem dX9_addFour_45 : decode cX9_addFour 45 = .ok (.return_, 1) := by decide +kernel
theorem dX10_ofFather_0 : decode cX10_ofFather 0 = .ok (.iload_n 1, 1) := by decide +kernel
theorem dX10_ofFather_1 : decode cX10_ofFather 1 = .ok (.iload_n 0, 1) := by decide +kernel
theorem dX10_ofFather_2 : decode cX10_ofFather 2 = .ok (.if_icmp .lt 7, 3) := by decide +kernel
theorem dX10_ofFather_5 : decode cX10_ofFather 5 = .ok (.iload_n 1, 1) := by decide +kernel
theorem dX10_ofFather_6 : decode cX10_ofFather 6 = .ok (.goto 4, 3) := by decide +kernel
theorem dX10_ofFather_9 : decode cX10_ofFather 9 = .ok (.iconst 0, 1) := by decide +kernel
theorem dX10_ofFather_10 : decode cX10_ofFather 10 = .ok (.ireturn, 1) := by decide +kernel
theorem dX10_ofCaptain_0 : decode cX10_ofCaptain 0 = .ok (.iload_n 2, 1) := by decide +kernel
theorem dX10_ofCaptain_1 : decode cX10_ofCaptain 1 = .ok (.iload_n 1, 1) := by decide +kernel
theorem dX10_ofCaptain_2 : decode cX10_ofCaptain 2 = .ok (.if_icmp .lt 9, 3) := by decide +kernel
theorem dX10_ofCaptain_5 : decode cX10_ofCaptain 5 = .ok (.iload_n 0, 1) := by decide +kernel
theorem dX10_ofCaptain_6 : decode cX10_ofCaptain 6 = .ok (.iload_n 2, 1) := by decide +kernel
theorem dX10_ofCaptain_7 : decode cX10_ofCaptain 7 = .ok (.isub, 1) := by decide +kernel
theorem dX10_ofCaptain_8 : decode cX10_ofCaptain 8 = .ok (.goto 4, 3) := by decide +kernel
theorem dX10_ofCaptain_11 : decode cX10_ofCaptain 11 = .ok (.iconst 0, 1) := by decide +kernel
theorem dX10_ofCaptain_12 : decode cX10_ofCaptain 12 = .ok (.ireturn, 1) := by decide +kernel
theorem dX10_isRest_0 : decode cX10_isRest 0 = .ok (.iconst 0, 1) := by decide +kernel
theorem dX10_isRest_1 : decode cX10_isRest 1 = .ok (.istore_n 3, 1) := by decide +kernel
theorem dX10_isRest_2 : decode cX10_isRest 2 = .ok (.iload_n 3, 1) := by decide +kernel
theorem dX10_isRest_3 : decode cX10_isRest 3 = .ok (.bipush 9, 2) := by decide +kernel
theorem dX10_isRest_5 : decode cX10_isRest 5 = .ok (.if_icmp .gt 41, 3) := by decide +kernel
theorem dX10_isRest_8 : decode cX10_isRest 8 = .ok (.iload_n 3, 1) := by decide +kernel
theorem dX10_isRest_9 : decode cX10_isRest 9 = .ok (.iload_n 2, 1) := by decide +kernel
theorem dX10_isRest_10 : decode cX10_isRest 10 = .ok (.invokestatic 7, 3) := by decide +kernel
theorem dX10_isRest_13 : decode cX10_isRest 13 = .ok (.iload_n 1, 1) := by decide +kernel
theorem dX10_isRest_14 : decode cX10_isRest 14 = .ok (.iload_n 2, 1) := by decide +kernel
theorem dX10_isRest_15 : decode cX10_isRest 15 = .ok (.invokestatic 7, 3) := by decide +kernel
theorem dX10_isRest_18 : decode cX10_isRest 18 = .ok (.if_icmp .le 5, 3) := by decide +kernel
theorem dX10_isRest_21 : decode cX10_isRest 21 = .ok (.iconst 0, 1) := by decide +kernel
theorem dX10_isRest_22 : decode cX10_isRest 22 = .ok (.ireturn, 1) := by decide +kernel
theorem dX10_isRest_23 : decode cX10_isRest 23 = .ok (.iload_n 0, 1) := by decide +kernel
theorem dX10_isRest_24 : decode cX10_isRest 24 = .ok (.iload_n 1, 1) := by decide +kernel
theorem dX10_isRest_25 : decode cX10_isRest 25 = .ok (.iload_n 3, 1) := by decide +kernel
theorem dX10_isRest_26 : decode cX10_isRest 26 = .ok (.invokestatic 13, 3) := by decide +kernel
theorem dX10_isRest_29 : decode cX10_isRest 29 = .ok (.iload_n 0, 1) := by decide +kernel
theorem dX10_isRest_30 : decode cX10_isRest 30 = .ok (.iload_n 1, 1) := by decide +kernel
theorem dX10_isRest_31 : decode cX10_isRest 31 = .ok (.iload_n 2, 1) := by decide +kernel
theorem dX10_isRest_32 : decode cX10_isRest 32 = .ok (.invokestatic 13, 3) := by decide +kernel
theorem dX10_isRest_35 : decode cX10_isRest 35 = .ok (.if_icmp .le 5, 3) := by decide +kernel
theorem dX10_isRest_38 : decode cX10_isRest 38 = .ok (.iconst 0, 1) := by decide +kernel
theorem dX10_isRest_39 : decode cX10_isRest 39 = .ok (.ireturn, 1) := by decide +kernel
theorem dX10_isRest_40 : decode cX10_isRest 40 = .ok (.iinc 3 1, 3) := by decide +kernel
theorem dX10_isRest_43 : decode cX10_isRest 43 = .ok (.goto (-41), 3) := by decide +kernel
theorem dX10_isRest_46 : decode cX10_isRest 46 = .ok (.iconst 1, 1) := by decide +kernel
theorem dX10_isRest_47 : decode cX10_isRest 47 = .ok (.ireturn, 1) := by decide +kernel
theorem dX11_init_0 : decode cX11_init 0 = .ok (.aload_n 0, 1) := by decide +kernel
theorem dX11_init_1 : decode cX11_init 1 = .ok (.invokespecial 1, 3) := by decide +kernel
theorem dX11_init_4 : decode cX11_init 4 = .ok (.aload_n 0, 1) := by decide +kernel
theorem dX11_init_5 : decode cX11_init 5 = .ok (.new 7, 3) := by decide +kernel
theorem dX11_init_8 : decode cX11_init 8 = .ok (.dup, 1) := by decide +kernel
theorem dX11_init_9 : decode cX11_init 9 = .ok (.invokespecial 9, 3) := by decide +kernel
theorem dX11_init_12 : decode cX11_init 12 = .ok (.putfield 10, 3) := by decide +kernel
theorem dX11_init_15 : decode cX11_init 15 = .ok (.aload_n 0, 1) := by decide +kernel
theorem dX11_init_16 : decode cX11_init 16 = .ok (.new 16, 3) := by decide +kernel
theorem dX11_init_19 : decode cX11_init 19 = .ok (.dup, 1) := by decide +kernel
theorem dX11_init_20 : decode cX11_init 20 = .ok (.aload_n 0, 1) := by decide +kernel
theorem dX11_init_21 : decode cX11_init 21 = .ok (.getfield 10, 3) := by decide +kernel
theorem dX11_init_24 : decode cX11_init 24 = .ok (.getfield 18, 3) := by decide +kernel
theorem dX11_init_27 : decode cX11_init 27 = .ok (.invokespecial 22, 3) := by decide +kernel
theorem dX11_init_30 : decode cX11_init 30 = .ok (.putfield 25, 3) := by decide +kernel
theorem dX11_init_33 : decode cX11_init 33 = .ok (.aload_n 0, 1) := by decide +kernel
theorem dX11_init_34 : decode cX11_init 34 = .ok (.new 29, 3) := by decide +kernel
theorem dX11_init_37 : decode cX11_init 37 = .ok (.dup, 1) := by decide +kernel
theorem dX11_init_38 : decode cX11_init 38 = .ok (.invokespecial 31, 3) := by decide +kernel
theorem dX11_init_41 : decode cX11_init 41 = .ok (.putfield 32, 3) := by decide +kernel
theorem dX11_init_44 : decode cX11_init 44 = .ok (.aload_n 0, 1) := by decide +kernel
theorem dX11_init_45 : decode cX11_init 45 = .ok (.new 36, 3) := by decide +kernel
theorem dX11_init_48 : decode cX11_init 48 = .ok (.dup, 1) := by decide +kernel
theorem dX11_init_49 : decode cX11_init 49 = .ok (.invokespecial 38, 3) := by decide +kernel
theorem dX11_init_52 : decode cX11_init 52 = .ok (.putfield 39, 3) := by decide +kernel
theorem dX11_init_55 : decode cX11_init 55 = .ok (.aload_n 0, 1) := by decide +kernel
theorem dX11_init_56 : decode cX11_init 56 = .ok (.new 43, 3) := by decide +kernel
theorem dX11_init_59 : decode cX11_init 59 = .ok (.dup, 1) := by decide +kernel
theorem dX11_init_60 : decode cX11_init 60 = .ok (.invokespecial 45, 3) := by decide +kernel
theorem dX11_init_63 : decode cX11_init 63 = .ok (.putfield 46, 3) := by decide +kernel
theorem dX11_init_66 : decode cX11_init 66 = .ok (.aload_n 0, 1) := by decide +kernel
theorem dX11_init_67 : decode cX11_init 67 = .ok (.new 50, 3) := by decide +kernel
theorem dX11_init_70 : decode cX11_init 70 = .ok (.dup, 1) := by decide +kernel
theorem dX11_init_71 : decode cX11_init 71 = .ok (.invokespecial 52, 3) := by decide +kernel
theorem dX11_init_74 : decode cX11_init 74 = .ok (.putfield 53, 3) := by decide +kernel
theorem dX11_init_77 : decode cX11_init 77 = .ok (.aload_n 0, 1) := by decide +kernel
theorem dX11_init_78 : decode cX11_init 78 = .ok (.new 57, 3) := by decide +kernel
theorem dX11_init_81 : decode cX11_init 81 = .ok (.dup, 1) := by decide +kernel
theorem dX11_init_82 : decode cX11_init 82 = .ok (.invokespecial 59, 3) := by decide +kernel
theorem dX11_init_85 : decode cX11_init 85 = .ok (.putfield 60, 3) := by decide +kernel
theorem dX11_init_88 : decode cX11_init 88 = .ok (.aload_n 0, 1) := by decide +kernel
theorem dX11_init_89 : decode cX11_init 89 = .ok (.new 64, 3) := by decide +kernel
theorem dX11_init_92 : decode cX11_init 92 = .ok (.dup, 1) := by decide +kernel
theorem dX11_init_93 : decode cX11_init 93 = .ok (.invokespecial 66, 3) := by decide +kernel
theorem dX11_init_96 : decode cX11_init 96 = .ok (.putfield 67, 3) := by decide +kernel
theorem dX11_init_99 : decode cX11_init 99 = .ok (.aload_n 0, 1) := by decide +kernel
theorem dX11_init_100 : decode cX11_init 100 = .ok (.new 71, 3) := by decide +kernel
theorem dX11_init_103 : decode cX11_init 103 = .ok (.dup, 1) := by decide +kernel
theorem dX11_init_104 : decode cX11_init 104 = .ok (.invokespecial 73, 3) := by decide +kernel
theorem dX11_init_107 : decode cX11_init 107 = .ok (.putfield 74, 3) := by decide +kernel
theorem dX11_init_110 : decode cX11_init 110 = .ok (.aload_n 0, 1) := by decide +kernel
theorem dX11_init_111 : decode cX11_init 111 = .ok (.new 78, 3) := by decide +kernel
theorem dX11_init_114 : decode cX11_init 114 = .ok (.dup, 1) := by decide +kernel
theorem dX11_init_115 : decode cX11_init 115 = .ok (.invokespecial 80, 3) := by decide +kernel
theorem dX11_init_118 : decode cX11_init 118 = .ok (.putfield 81, 3) := by decide +kernel
theorem dX11_init_121 : decode cX11_init 121 = .ok (.aload_n 0, 1) := by decide +kernel
theorem dX11_init_122 : decode cX11_init 122 = .ok (.iconst 0, 1) := by decide +kernel
theorem dX11_init_123 : decode cX11_init 123 = .ok (.putfield 85, 3) := by decide +kernel
theorem dX11_init_126 : decode cX11_init 126 = .ok (.aload_n 0, 1) := by decide +kernel
theorem dX11_init_127 : decode cX11_init 127 = .ok (.iconst 0, 1) := by decide +kernel
theorem dX11_init_128 : decode cX11_init 128 = .ok (.putfield 89, 3) := by decide +kernel
theorem dX11_init_131 : decode cX11_init 131 = .ok (.aload_n 0, 1) := by decide +kernel
theorem dX11_init_132 : decode cX11_init 132 = .ok (.iconst 0, 1) := by decide +kernel
theorem dX11_init_133 : decode cX11_init 133 = .ok (.putfield 92, 3) := by decide +kernel
theorem dX11_init_136 : decode cX11_init 136 = .ok (.return_, 1) := by decide +kernel
theorem dX11_feed_0 : decode cX11_feed 0 = .ok (.aload_n 0, 1) := by decide +kernel
theorem dX11_feed_1 : decode cX11_feed 1 = .ok (.getfield 10, 3) := by decide +kernel
theorem dX11_feed_4 : decode cX11_feed 4 = .ok (.bipush 20, 2) := by decide +kernel
theorem dX11_feed_6 : decode cX11_feed 6 = .ok (.invokevirtual 95, 3) := by decide +kernel
theorem dX11_feed_9 : decode cX11_feed 9 = .ok (.ifCond .ne 5, 3) := by decide +kernel
theorem dX11_feed_12 : decode cX11_feed 12 = .ok (.iconst (-1), 1) := by decide +kernel
theorem dX11_feed_13 : decode cX11_feed 13 = .ok (.ireturn, 1) := by decide +kernel
theorem dX11_feed_14 : decode cX11_feed 14 = .ok (.aload_n 0, 1) := by decide +kernel
theorem dX11_feed_15 : decode cX11_feed 15 = .ok (.getfield 10, 3) := by decide +kernel
theorem dX11_feed_18 : decode cX11_feed 18 = .ok (.iload_n 1, 1) := by decide +kernel
theorem dX11_feed_19 : decode cX11_feed 19 = .ok (.invokevirtual 99, 3) := by decide +kernel
theorem dX11_feed_22 : decode cX11_feed 22 = .ok (.aload_n 0, 1) := by decide +kernel
theorem dX11_feed_23 : decode cX11_feed 23 = .ok (.getfield 10, 3) := by decide +kernel
theorem dX11_feed_26 : decode cX11_feed 26 = .ok (.iload_n 2, 1) := by decide +kernel
theorem dX11_feed_27 : decode cX11_feed 27 = .ok (.invokevirtual 99, 3) := by decide +kernel
theorem dX11_feed_30 : decode cX11_feed 30 = .ok (.aload_n 0, 1) := by decide +kernel
theorem dX11_feed_31 : decode cX11_feed 31 = .ok (.getfield 10, 3) := by decide +kernel
theorem dX11_feed_34 : decode cX11_feed 34 = .ok (.iload_n 3, 1) := by decide +kernel
theorem dX11_feed_35 : decode cX11_feed 35 = .ok (.invokevirtual 99, 3) := by decide +kernel
theorem dX11_feed_38 : decode cX11_feed 38 = .ok (.aload_n 0, 1) := by decide +kernel
theorem dX11_feed_39 : decode cX11_feed 39 = .ok (.getfield 10, 3) := by decide +kernel
theorem dX11_feed_42 : decode cX11_feed 42 = .ok (.iload 4, 2) := by decide +kernel
theorem dX11_feed_44 : decode cX11_feed 44 = .ok (.invokevirtual 99, 3) := by decide +kernel
theorem dX11_feed_47 : decode cX11_feed 47 = .ok (.aload_n 0, 1) := by decide +kernel
theorem dX11_feed_48 : decode cX11_feed 48 = .ok (.getfield 10, 3) := by decide +kernel
theorem dX11_feed_51 : decode cX11_feed 51 = .ok (.iload 5, 2) := by decide +kernel
theorem dX11_feed_53 : decode cX11_feed 53 = .ok (.invokevirtual 99, 3) := by decide +kernel
theorem dX11_feed_56 : decode cX11_feed 56 = .ok (.aload_n 0, 1) := by decide +kernel
theorem dX11_feed_57 : decode cX11_feed 57 = .ok (.getfield 10, 3) := by decide +kernel
theorem dX11_feed_60 : decode cX11_feed 60 = .ok (.getfield 103, 3) := by decide +kernel
theorem dX11_feed_63 : decode cX11_feed 63 = .ok (.ireturn, 1) := by decide +kernel
theorem dX11_oath_0 : decode cX11_oath 0 = .ok (.aload_n 0, 1) := by decide +kernel
theorem dX11_oath_1 : decode cX11_oath 1 = .ok (.iload_n 1, 1) := by decide +kernel
theorem dX11_oath_2 : decode cX11_oath 2 = .ok (.iconst 0, 1) := by decide +kernel
theorem dX11_oath_3 : decode cX11_oath 3 = .ok (.aload_n 0, 1) := by decide +kernel
theorem dX11_oath_4 : decode cX11_oath 4 = .ok (.getfield 10, 3) := by decide +kernel
theorem dX11_oath_7 : decode cX11_oath 7 = .ok (.getfield 103, 3) := by decide +kernel
theorem dX11_oath_10 : decode cX11_oath 10 = .ok (.invokestatic 106, 3) := by decide +kernel
theorem dX11_oath_13 : decode cX11_oath 13 = .ok (.invokevirtual 110, 3) := by decide +kernel
theorem dX11_oath_16 : decode cX11_oath 16 = .ok (.ifCond .eq 5, 3) := by decide +kernel
theorem dX11_oath_19 : decode cX11_oath 19 = .ok (.iconst (-1), 1) := by decide +kernel
theorem dX11_oath_20 : decode cX11_oath 20 = .ok (.ireturn, 1) := by decide +kernel
theorem dX11_oath_21 : decode cX11_oath 21 = .ok (.aload_n 0, 1) := by decide +kernel
theorem dX11_oath_22 : decode cX11_oath 22 = .ok (.aload_n 0, 1) := by decide +kernel
theorem dX11_oath_23 : decode cX11_oath 23 = .ok (.getfield 25, 3) := by decide +kernel
theorem dX11_oath_26 : decode cX11_oath 26 = .ok (.iload_n 1, 1) := by decide +kernel
theorem dX11_oath_27 : decode cX11_oath 27 = .ok (.invokevirtual 113, 3) := by decide +kernel
theorem dX11_oath_30 : decode cX11_oath 30 = .ok (.putfield 89, 3) := by decide +kernel
theorem dX11_oath_33 : decode cX11_oath 33 = .ok (.aload_n 0, 1) := by decide +kernel
theorem dX11_oath_34 : decode cX11_oath 34 = .ok (.getfield 10, 3) := by decide +kernel
theorem dX11_oath_37 : decode cX11_oath 37 = .ok (.iconst 0, 1) := by decide +kernel
theorem dX11_oath_38 : decode cX11_oath 38 = .ok (.putfield 103, 3) := by decide +kernel
theorem dX11_oath_41 : decode cX11_oath 41 = .ok (.aload_n 0, 1) := by decide +kernel
theorem dX11_oath_42 : decode cX11_oath 42 = .ok (.getfield 89, 3) := by decide +kernel
theorem dX11_oath_45 : decode cX11_oath 45 = .ok (.ifCond .eq 21, 3) := by decide +kernel
theorem dX11_oath_48 : decode cX11_oath 48 = .ok (.aload_n 0, 1) := by decide +kernel
theorem dX11_oath_49 : decode cX11_oath 49 = .ok (.aload_n 0, 1) := by decide +kernel
theorem dX11_oath_50 : decode cX11_oath 50 = .ok (.getfield 25, 3) := by decide +kernel
theorem dX11_oath_53 : decode cX11_oath 53 = .ok (.getfield 117, 3) := by decide +kernel
theorem dX11_oath_56 : decode cX11_oath 56 = .ok (.putfield 92, 3) := by decide +kernel
theorem dX11_oath_59 : decode cX11_oath 59 = .ok (.aload_n 0, 1) := by decide +kernel
theorem dX11_oath_60 : decode cX11_oath 60 = .ok (.iconst 4, 1) := by decide +kernel
theorem dX11_oath_61 : decode cX11_oath 61 = .ok (.putfield 85, 3) := by decide +kernel
theorem dX11_oath_64 : decode cX11_oath 64 = .ok (.iconst (-1), 1) := by decide +kernel
theorem dX11_oath_65 : decode cX11_oath 65 = .ok (.ireturn, 1) := by decide +kernel
theorem dX11_oath_66 : decode cX11_oath 66 = .ok (.aload_n 0, 1) := by decide +kernel
theorem dX11_oath_67 : decode cX11_oath 67 = .ok (.getfield 25, 3) := by decide +kernel
theorem dX11_oath_70 : decode cX11_oath 70 = .ok (.getfield 120, 3) := by decide +kernel
theorem dX11_oath_73 : decode cX11_oath 73 = .ok (.astore_n 2, 1) := by decide +kernel
theorem dX11_oath_74 : decode cX11_oath 74 = .ok (.aload_n 0, 1) := by decide +kernel
theorem dX11_oath_75 : decode cX11_oath 75 = .ok (.getfield 25, 3) := by decide +kernel
theorem dX11_oath_78 : decode cX11_oath 78 = .ok (.aload_n 0, 1) := by decide +kernel
theorem dX11_oath_79 : decode cX11_oath 79 = .ok (.getfield 32, 3) := by decide +kernel
theorem dX11_oath_82 : decode cX11_oath 82 = .ok (.putfield 120, 3) := by decide +kernel
theorem dX11_oath_85 : decode cX11_oath 85 = .ok (.aload_n 0, 1) := by decide +kernel
theorem dX11_oath_86 : decode cX11_oath 86 = .ok (.aload_n 2, 1) := by decide +kernel
theorem dX11_oath_87 : decode cX11_oath 87 = .ok (.putfield 32, 3) := by decide +kernel
theorem dX11_oath_90 : decode cX11_oath 90 = .ok (.aload_n 0, 1) := by decide +kernel
theorem dX11_oath_91 : decode cX11_oath 91 = .ok (.getfield 39, 3) := by decide +kernel
theorem dX11_oath_94 : decode cX11_oath 94 = .ok (.invokevirtual 123, 3) := by decide +kernel
theorem dX11_oath_97 : decode cX11_oath 97 = .ok (.aload_n 0, 1) := by decide +kernel
theorem dX11_oath_98 : decode cX11_oath 98 = .ok (.getfield 46, 3) := by decide +kernel
theorem dX11_oath_101 : decode cX11_oath 101 = .ok (.invokevirtual 126, 3) := by decide +kernel
theorem dX11_oath_104 : decode cX11_oath 104 = .ok (.aload_n 0, 1) := by decide +kernel
theorem dX11_oath_105 : decode cX11_oath 105 = .ok (.getfield 32, 3) := by decide +kernel
theorem dX11_oath_108 : decode cX11_oath 108 = .ok (.getfield 129, 3) := by decide +kernel
theorem dX11_oath_111 : decode cX11_oath 111 = .ok (.iconst 2, 1) := by decide +kernel
theorem dX11_oath_112 : decode cX11_oath 112 = .ok (.iaload, 1) := by decide +kernel
theorem dX11_oath_113 : decode cX11_oath 113 = .ok (.ireturn, 1) := by decide +kernel
theorem dX11_fault_0 : decode cX11_fault 0 = .ok (.aload_n 0, 1) := by decide +kernel
theorem dX11_fault_1 : decode cX11_fault 1 = .ok (.getfield 89, 3) := by decide +kernel
theorem dX11_fault_4 : decode cX11_fault 4 = .ok (.ireturn, 1) := by decide +kernel
theorem dX11_where_0 : decode cX11_where 0 = .ok (.aload_n 0, 1) := by decide +kernel
theorem dX11_where_1 : decode cX11_where 1 = .ok (.getfield 85, 3) := by decide +kernel
theorem dX11_where_4 : decode cX11_where 4 = .ok (.iconst 4, 1) := by decide +kernel
theorem dX11_where_5 : decode cX11_where 5 = .ok (.if_icmp .ne 10, 3) := by decide +kernel
theorem dX11_where_8 : decode cX11_where 8 = .ok (.aload_n 0, 1) := by decide +kernel
theorem dX11_where_9 : decode cX11_where 9 = .ok (.getfield 92, 3) := by decide +kernel
theorem dX11_where_12 : decode cX11_where 12 = .ok (.goto 4, 3) := by decide +kernel
theorem dX11_where_15 : decode cX11_where 15 = .ok (.iconst (-1), 1) := by decide +kernel
theorem dX11_where_16 : decode cX11_where 16 = .ok (.ireturn, 1) := by decide +kernel
theorem dX11_harbour_0 : decode cX11_harbour 0 = .ok (.aload_n 0, 1) := by decide +kernel
theorem dX11_harbour_1 : decode cX11_harbour 1 = .ok (.aload_n 0, 1) := by decide +kernel
theorem dX11_harbour_2 : decode cX11_harbour 2 = .ok (.iload_n 1, 1) := by decide +kernel
theorem dX11_harbour_3 : decode cX11_harbour 3 = .ok (.invokevirtual 133, 3) := by decide +kernel
theorem dX11_harbour_6 : decode cX11_harbour 6 = .ok (.iload_n 2, 1) := by decide +kernel
theorem dX11_harbour_7 : decode cX11_harbour 7 = .ok (.iconst 4, 1) := by decide +kernel
theorem dX11_harbour_8 : decode cX11_harbour 8 = .ok (.invokestatic 136, 3) := by decide +kernel
theorem dX11_harbour_11 : decode cX11_harbour 11 = .ok (.invokestatic 140, 3) := by decide +kernel
theorem dX11_harbour_14 : decode cX11_harbour 14 = .ok (.invokevirtual 110, 3) := by decide +kernel
theorem dX11_harbour_17 : decode cX11_harbour 17 = .ok (.ifCond .eq 5, 3) := by decide +kernel
theorem dX11_harbour_20 : decode cX11_harbour 20 = .ok (.iconst (-1), 1) := by decide +kernel
theorem dX11_harbour_21 : decode cX11_harbour 21 = .ok (.ireturn, 1) := by decide +kernel
theorem dX11_harbour_22 : decode cX11_harbour 22 = .ok (.iload_n 2, 1) := by decide +kernel
theorem dX11_harbour_23 : decode cX11_harbour 23 = .ok (.tableswitch 55 0 2 #[25, 35, 45], 25) := by decide +kernel
theorem dX11_harbour_48 : decode cX11_harbour 48 = .ok (.aload_n 0, 1) := by decide +kernel
theorem dX11_harbour_49 : decode cX11_harbour 49 = .ok (.getfield 32, 3) := by decide +kernel
theorem dX11_harbour_52 : decode cX11_harbour 52 = .ok (.getfield 143, 3) := by decide +kernel
theorem dX11_harbour_55 : decode cX11_harbour 55 = .ok (.iload_n 1, 1) := by decide +kernel
theorem dX11_harbour_56 : decode cX11_harbour 56 = .ok (.iaload, 1) := by decide +kernel
theorem dX11_harbour_57 : decode cX11_harbour 57 = .ok (.ireturn, 1) := by decide +kernel
theorem dX11_harbour_58 : decode cX11_harbour 58 = .ok (.aload_n 0, 1) := by decide +kernel
theorem dX11_harbour_59 : decode cX11_harbour 59 = .ok (.getfield 32, 3) := by decide +kernel
theorem dX11_harbour_62 : decode cX11_harbour 62 = .ok (.getfield 146, 3) := by decide +kernel
theorem dX11_harbour_65 : decode cX11_harbour 65 = .ok (.iload_n 1, 1) := by decide +kernel
theorem dX11_harbour_66 : decode cX11_harbour 66 = .ok (.iaload, 1) := by decide +kernel
theorem dX11_harbour_67 : decode cX11_harbour 67 = .ok (.ireturn, 1) := by decide +kernel
theorem dX11_harbour_68 : decode cX11_harbour 68 = .ok (.aload_n 0, 1) := by decide +kernel
theorem dX11_harbour_69 : decode cX11_harbour 69 = .ok (.getfield 32, 3) := by decide +kernel
theorem dX11_harbour_72 : decode cX11_harbour 72 = .ok (.getfield 149, 3) := by decide +kernel
theorem dX11_harbour_75 : decode cX11_harbour 75 = .ok (.iload_n 1, 1) := by decide +kernel
theorem dX11_harbour_76 : decode cX11_harbour 76 = .ok (.iaload, 1) := by decide +kernel
theorem dX11_harbour_77 : decode cX11_harbour 77 = .ok (.ireturn, 1) := by decide +kernel
theorem dX11_harbour_78 : decode cX11_harbour 78 = .ok (.aload_n 0, 1) := by decide +kernel
theorem dX11_harbour_79 : decode cX11_harbour 79 = .ok (.getfield 32, 3) := by decide +kernel
theorem dX11_harbour_82 : decode cX11_harbour 82 = .ok (.iload_n 1, 1) := by decide +kernel
theorem dX11_harbour_83 : decode cX11_harbour 83 = .ok (.invokevirtual 152, 3) := by decide +kernel
theorem dX11_harbour_86 : decode cX11_harbour 86 = .ok (.ireturn, 1) := by decide +kernel
theorem dX11_woman_0 : decode cX11_woman 0 = .ok (.aload_n 0, 1) := by decide +kernel
theorem dX11_woman_1 : decode cX11_woman 1 = .ok (.aload_n 0, 1) := by decide +kernel
theorem dX11_woman_2 : decode cX11_woman 2 = .ok (.iload_n 1, 1) := by decide +kernel
theorem dX11_woman_3 : decode cX11_woman 3 = .ok (.invokevirtual 155, 3) := by decide +kernel
theorem dX11_woman_6 : decode cX11_woman 6 = .ok (.iload_n 2, 1) := by decide +kernel
theorem dX11_woman_7 : decode cX11_woman 7 = .ok (.bipush 6, 2) := by decide +kernel
theorem dX11_woman_9 : decode cX11_woman 9 = .ok (.invokestatic 136, 3) := by decide +kernel
theorem dX11_woman_12 : decode cX11_woman 12 = .ok (.invokestatic 140, 3) := by decide +kernel
theorem dX11_woman_15 : decode cX11_woman 15 = .ok (.invokevirtual 110, 3) := by decide +kernel
theorem dX11_woman_18 : decode cX11_woman 18 = .ok (.ifCond .eq 5, 3) := by decide +kernel
theorem dX11_woman_21 : decode cX11_woman 21 = .ok (.iconst (-1), 1) := by decide +kernel
theorem dX11_woman_22 : decode cX11_woman 22 = .ok (.ireturn, 1) := by decide +kernel
theorem dX11_woman_23 : decode cX11_woman 23 = .ok (.iload_n 2, 1) := by decide +kernel
theorem dX11_woman_24 : decode cX11_woman 24 = .ok (.tableswitch 85 0 4 #[36, 46, 56, 66, 76], 36) := by decide +kernel
theorem dX11_woman_60 : decode cX11_woman 60 = .ok (.aload_n 0, 1) := by decide +kernel
theorem dX11_woman_61 : decode cX11_woman 61 = .ok (.getfield 32, 3) := by decide +kernel
theorem dX11_woman_64 : decode cX11_woman 64 = .ok (.getfield 158, 3) := by decide +kernel
theorem dX11_woman_67 : decode cX11_woman 67 = .ok (.iload_n 1, 1) := by decide +kernel
theorem dX11_woman_68 : decode cX11_woman 68 = .ok (.iaload, 1) := by decide +kernel
theorem dX11_woman_69 : decode cX11_woman 69 = .ok (.ireturn, 1) := by decide +kernel
theorem dX11_woman_70 : decode cX11_woman 70 = .ok (.aload_n 0, 1) := by decide +kernel
theorem dX11_woman_71 : decode cX11_woman 71 = .ok (.getfield 32, 3) := by decide +kernel
theorem dX11_woman_74 : decode cX11_woman 74 = .ok (.getfield 161, 3) := by decide +kernel
theorem dX11_woman_77 : decode cX11_woman 77 = .ok (.iload_n 1, 1) := by decide +kernel
theorem dX11_woman_78 : decode cX11_woman 78 = .ok (.iaload, 1) := by decide +kernel
theorem dX11_woman_79 : decode cX11_woman 79 = .ok (.ireturn, 1) := by decide +kernel
theorem dX11_woman_80 : decode cX11_woman 80 = .ok (.aload_n 0, 1) := by decide +kernel
theorem dX11_woman_81 : decode cX11_woman 81 = .ok (.getfield 32, 3) := by decide +kernel
theorem dX11_woman_84 : decode cX11_woman 84 = .ok (.getfield 164, 3) := by decide +kernel
theorem dX11_woman_87 : decode cX11_woman 87 = .ok (.iload_n 1, 1) := by decide +kernel
theorem dX11_woman_88 : decode cX11_woman 88 = .ok (.iaload, 1) := by decide +kernel
theorem dX11_woman_89 : decode cX11_woman 89 = .ok (.ireturn, 1) := by decide +kernel
theorem dX11_woman_90 : decode cX11_woman 90 = .ok (.aload_n 0, 1) := by decide +kernel
theorem dX11_woman_91 : decode cX11_woman 91 = .ok (.getfield 32, 3) := by decide +kernel
theorem dX11_woman_94 : decode cX11_woman 94 = .ok (.getfield 167, 3) := by decide +kernel
theorem dX11_woman_97 : decode cX11_woman 97 = .ok (.iload_n 1, 1) := by decide +kernel
theorem dX11_woman_98 : decode cX11_woman 98 = .ok (.iaload, 1) := by decide +kernel
theorem dX11_woman_99 : decode cX11_woman 99 = .ok (.ireturn, 1) := by decide +kernel
theorem dX11_woman_100 : decode cX11_woman 100 = .ok (.aload_n 0, 1) := by decide +kernel
theorem dX11_woman_101 : decode cX11_woman 101 = .ok (.getfield 32, 3) := by decide +kernel
theorem dX11_woman_104 : decode cX11_woman 104 = .ok (.iload_n 1, 1) := by decide +kernel
theorem dX11_woman_105 : decode cX11_woman 105 = .ok (.invokevirtual 170, 3) := by decide +kernel
theorem dX11_woman_108 : decode cX11_woman 108 = .ok (.ireturn, 1) := by decide +kernel
theorem dX11_woman_109 : decode cX11_woman 109 = .ok (.aload_n 0, 1) := by decide +kernel
theorem dX11_woman_110 : decode cX11_woman 110 = .ok (.getfield 39, 3) := by decide +kernel
theorem dX11_woman_113 : decode cX11_woman 113 = .ok (.iload_n 1, 1) := by decide +kernel
theorem dX11_woman_114 : decode cX11_woman 114 = .ok (.invokevirtual 173, 3) := by decide +kernel
theorem dX11_woman_117 : decode cX11_woman 117 = .ok (.ifCond .eq 7, 3) := by decide +kernel
theorem dX11_woman_120 : decode cX11_woman 120 = .ok (.iconst 1, 1) := by decide +kernel
theorem dX11_woman_121 : decode cX11_woman 121 = .ok (.goto 4, 3) := by decide +kernel
theorem dX11_woman_124 : decode cX11_woman 124 = .ok (.iconst 0, 1) := by decide +kernel
theorem dX11_woman_125 : decode cX11_woman 125 = .ok (.ireturn, 1) := by decide +kernel
theorem dX11_age_0 : decode cX11_age 0 = .ok (.aload_n 0, 1) := by decide +kernel
theorem dX11_age_1 : decode cX11_age 1 = .ok (.aload_n 0, 1) := by decide +kernel
theorem dX11_age_2 : decode cX11_age 2 = .ok (.iload_n 1, 1) := by decide +kernel
theorem dX11_age_3 : decode cX11_age 3 = .ok (.invokevirtual 155, 3) := by decide +kernel
theorem dX11_age_6 : decode cX11_age 6 = .ok (.aload_n 0, 1) := by decide +kernel
theorem dX11_age_7 : decode cX11_age 7 = .ok (.iload_n 2, 1) := by decide +kernel
theorem dX11_age_8 : decode cX11_age 8 = .ok (.invokevirtual 176, 3) := by decide +kernel
theorem dX11_age_11 : decode cX11_age 11 = .ok (.invokestatic 140, 3) := by decide +kernel
theorem dX11_age_14 : decode cX11_age 14 = .ok (.invokevirtual 110, 3) := by decide +kernel
theorem dX11_age_17 : decode cX11_age 17 = .ok (.ifCond .eq 7, 3) := by decide +kernel
theorem dX11_age_20 : decode cX11_age 20 = .ok (.sipush (-1000), 3) := by decide +kernel
theorem dX11_age_23 : decode cX11_age 23 = .ok (.ireturn, 1) := by decide +kernel
theorem dX11_age_24 : decode cX11_age 24 = .ok (.iload_n 2, 1) := by decide +kernel
theorem dX11_age_25 : decode cX11_age 25 = .ok (.aload_n 0, 1) := by decide +kernel
theorem dX11_age_26 : decode cX11_age 26 = .ok (.getfield 32, 3) := by decide +kernel
theorem dX11_age_29 : decode cX11_age 29 = .ok (.getfield 179, 3) := by decide +kernel
theorem dX11_age_32 : decode cX11_age 32 = .ok (.imul, 1) := by decide +kernel
theorem dX11_age_33 : decode cX11_age 33 = .ok (.aload_n 0, 1) := by decide +kernel
theorem dX11_age_34 : decode cX11_age 34 = .ok (.getfield 32, 3) := by decide +kernel
theorem dX11_age_37 : decode cX11_age 37 = .ok (.getfield 167, 3) := by decide +kernel
theorem dX11_age_40 : decode cX11_age 40 = .ok (.iload_n 1, 1) := by decide +kernel
theorem dX11_age_41 : decode cX11_age 41 = .ok (.iaload, 1) := by decide +kernel
theorem dX11_age_42 : decode cX11_age 42 = .ok (.isub, 1) := by decide +kernel
theorem dX11_age_43 : decode cX11_age 43 = .ok (.ireturn, 1) := by decide +kernel
theorem dX11_love_0 : decode cX11_love 0 = .ok (.aload_n 0, 1) := by decide +kernel
theorem dX11_love_1 : decode cX11_love 1 = .ok (.aload_n 0, 1) := by decide +kernel
theorem dX11_love_2 : decode cX11_love 2 = .ok (.iload_n 1, 1) := by decide +kernel
theorem dX11_love_3 : decode cX11_love 3 = .ok (.invokevirtual 155, 3) := by decide +kernel
theorem dX11_love_6 : decode cX11_love 6 = .ok (.aload_n 0, 1) := by decide +kernel
theorem dX11_love_7 : decode cX11_love 7 = .ok (.iload_n 2, 1) := by decide +kernel
theorem dX11_love_8 : decode cX11_love 8 = .ok (.invokevirtual 176, 3) := by decide +kernel
theorem dX11_love_11 : decode cX11_love 11 = .ok (.invokestatic 140, 3) := by decide +kernel
theorem dX11_love_14 : decode cX11_love 14 = .ok (.invokevirtual 110, 3) := by decide +kernel
theorem dX11_love_17 : decode cX11_love 17 = .ok (.ifCond .eq 5, 3) := by decide +kernel
theorem dX11_love_20 : decode cX11_love 20 = .ok (.iconst (-1), 1) := by decide +kernel
theorem dX11_love_21 : decode cX11_love 21 = .ok (.ireturn, 1) := by decide +kernel
theorem dX11_love_22 : decode cX11_love 22 = .ok (.aload_n 0, 1) := by decide +kernel
theorem dX11_love_23 : decode cX11_love 23 = .ok (.getfield 32, 3) := by decide +kernel
theorem dX11_love_26 : decode cX11_love 26 = .ok (.iload_n 1, 1) := by decide +kernel
theorem dX11_love_27 : decode cX11_love 27 = .ok (.iload_n 2, 1) := by decide +kernel
theorem dX11_love_28 : decode cX11_love 28 = .ok (.invokevirtual 182, 3) := by decide +kernel
theorem dX11_love_31 : decode cX11_love 31 = .ok (.ireturn, 1) := by decide +kernel
theorem dX11_isTrue_0 : decode cX11_isTrue 0 = .ok (.aload_n 0, 1) := by decide +kernel
theorem dX11_isTrue_1 : decode cX11_isTrue 1 = .ok (.aload_n 0, 1) := by decide +kernel
theorem dX11_isTrue_2 : decode cX11_isTrue 2 = .ok (.iload_n 1, 1) := by decide +kernel
theorem dX11_isTrue_3 : decode cX11_isTrue 3 = .ok (.invokevirtual 155, 3) := by decide +kernel
theorem dX11_isTrue_6 : decode cX11_isTrue 6 = .ok (.aload_n 0, 1) := by decide +kernel
theorem dX11_isTrue_7 : decode cX11_isTrue 7 = .ok (.iload_n 2, 1) := by decide +kernel
theorem dX11_isTrue_8 : decode cX11_isTrue 8 = .ok (.invokevirtual 176, 3) := by decide +kernel
theorem dX11_isTrue_11 : decode cX11_isTrue 11 = .ok (.invokestatic 140, 3) := by decide +kernel
theorem dX11_isTrue_14 : decode cX11_isTrue 14 = .ok (.invokevirtual 110, 3) := by decide +kernel
theorem dX11_isTrue_17 : decode cX11_isTrue 17 = .ok (.ifCond .eq 7, 3) := by decide +kernel
theorem dX11_isTrue_20 : decode cX11_isTrue 20 = .ok (.ldc2_w 185, 3) := by decide +kernel
theorem dX11_isTrue_23 : decode cX11_isTrue 23 = .ok (.lreturn, 1) := by decide +kernel
theorem dX11_isTrue_24 : decode cX11_isTrue 24 = .ok (.aload_n 0, 1) := by decide +kernel
theorem dX11_isTrue_25 : decode cX11_isTrue 25 = .ok (.getfield 32, 3) := by decide +kernel
theorem dX11_isTrue_28 : decode cX11_isTrue 28 = .ok (.aload_n 0, 1) := by decide +kernel
theorem dX11_isTrue_29 : decode cX11_isTrue 29 = .ok (.getfield 32, 3) := by decide +kernel
theorem dX11_isTrue_32 : decode cX11_isTrue 32 = .ok (.iload_n 1, 1) := by decide +kernel
theorem dX11_isTrue_33 : decode cX11_isTrue 33 = .ok (.iload_n 2, 1) := by decide +kernel
theorem dX11_isTrue_34 : decode cX11_isTrue 34 = .ok (.invokevirtual 182, 3) := by decide +kernel
theorem dX11_isTrue_37 : decode cX11_isTrue 37 = .ok (.invokevirtual 187, 3) := by decide +kernel
theorem dX11_isTrue_40 : decode cX11_isTrue 40 = .ok (.aload_n 0, 1) := by decide +kernel
theorem dX11_isTrue_41 : decode cX11_isTrue 41 = .ok (.getfield 32, 3) := by decide +kernel
theorem dX11_isTrue_44 : decode cX11_isTrue 44 = .ok (.bipush 100, 2) := by decide +kernel
theorem dX11_isTrue_46 : decode cX11_isTrue 46 = .ok (.invokevirtual 187, 3) := by decide +kernel
theorem dX11_isTrue_49 : decode cX11_isTrue 49 = .ok (.iload_n 3, 1) := by decide +kernel
theorem dX11_isTrue_50 : decode cX11_isTrue 50 = .ok (.invokestatic 191, 3) := by decide +kernel
theorem dX11_isTrue_53 : decode cX11_isTrue 53 = .ok (.lreturn, 1) := by decide +kernel
theorem dX11_bestLanding_0 : decode cX11_bestLanding 0 = .ok (.aload_n 0, 1) := by decide +kernel
theorem dX11_bestLanding_1 : decode cX11_bestLanding 1 = .ok (.aload_n 0, 1) := by decide +kernel
theorem dX11_bestLanding_2 : decode cX11_bestLanding 2 = .ok (.iload_n 1, 1) := by decide +kernel
theorem dX11_bestLanding_3 : decode cX11_bestLanding 3 = .ok (.invokevirtual 155, 3) := by decide +kernel
theorem dX11_bestLanding_6 : decode cX11_bestLanding 6 = .ok (.invokevirtual 110, 3) := by decide +kernel
theorem dX11_bestLanding_9 : decode cX11_bestLanding 9 = .ok (.ifCond .eq 5, 3) := by decide +kernel
theorem dX11_bestLanding_12 : decode cX11_bestLanding 12 = .ok (.iconst (-1), 1) := by decide +kernel
theorem dX11_bestLanding_13 : decode cX11_bestLanding 13 = .ok (.ireturn, 1) := by decide +kernel
theorem dX11_bestLanding_14 : decode cX11_bestLanding 14 = .ok (.bipush (-2), 2) := by decide +kernel
theorem dX11_bestLanding_16 : decode cX11_bestLanding 16 = .ok (.istore_n 2, 1) := by decide +kernel
theorem dX11_bestLanding_17 : decode cX11_bestLanding 17 = .ok (.iconst 0, 1) := by decide +kernel
theorem dX11_bestLanding_18 : decode cX11_bestLanding 18 = .ok (.istore_n 3, 1) := by decide +kernel
theorem dX11_bestLanding_19 : decode cX11_bestLanding 19 = .ok (.iconst 0, 1) := by decide +kernel
theorem dX11_bestLanding_20 : decode cX11_bestLanding 20 = .ok (.istore 4, 2) := by decide +kernel
theorem dX11_bestLanding_22 : decode cX11_bestLanding 22 = .ok (.iload 4, 2) := by decide +kernel
theorem dX11_bestLanding_24 : decode cX11_bestLanding 24 = .ok (.bipush 30, 2) := by decide +kernel
theorem dX11_bestLanding_26 : decode cX11_bestLanding 26 = .ok (.if_icmp .gt 33, 3) := by decide +kernel
theorem dX11_bestLanding_29 : decode cX11_bestLanding 29 = .ok (.aload_n 0, 1) := by decide +kernel
theorem dX11_bestLanding_30 : decode cX11_bestLanding 30 = .ok (.getfield 32, 3) := by decide +kernel
theorem dX11_bestLanding_33 : decode cX11_bestLanding 33 = .ok (.iload_n 1, 1) := by decide +kernel
theorem dX11_bestLanding_34 : decode cX11_bestLanding 34 = .ok (.iload 4, 2) := by decide +kernel
theorem dX11_bestLanding_36 : decode cX11_bestLanding 36 = .ok (.invokevirtual 182, 3) := by decide +kernel
theorem dX11_bestLanding_39 : decode cX11_bestLanding 39 = .ok (.istore 5, 2) := by decide +kernel
theorem dX11_bestLanding_41 : decode cX11_bestLanding 41 = .ok (.iload 5, 2) := by decide +kernel
theorem dX11_bestLanding_43 : decode cX11_bestLanding 43 = .ok (.iload_n 3, 1) := by decide +kernel
theorem dX11_bestLanding_44 : decode cX11_bestLanding 44 = .ok (.if_icmp .le 9, 3) := by decide +kernel
theorem dX11_bestLanding_47 : decode cX11_bestLanding 47 = .ok (.iload 5, 2) := by decide +kernel
theorem dX11_bestLanding_49 : decode cX11_bestLanding 49 = .ok (.istore_n 3, 1) := by decide +kernel
theorem dX11_bestLanding_50 : decode cX11_bestLanding 50 = .ok (.iload 4, 2) := by decide +kernel
theorem dX11_bestLanding_52 : decode cX11_bestLanding 52 = .ok (.istore_n 2, 1) := by decide +kernel
theorem dX11_bestLanding_53 : decode cX11_bestLanding 53 = .ok (.iinc 4 1, 3) := by decide +kernel
theorem dX11_bestLanding_56 : decode cX11_bestLanding 56 = .ok (.goto (-34), 3) := by decide +kernel
theorem dX11_bestLanding_59 : decode cX11_bestLanding 59 = .ok (.iload_n 2, 1) := by decide +kernel
theorem dX11_bestLanding_60 : decode cX11_bestLanding 60 = .ok (.ireturn, 1) := by decide +kernel
theorem dX11_ofAge_0 : decode cX11_ofAge 0 = .ok (.aload_n 0, 1) := by decide +kernel
theorem dX11_ofAge_1 : decode cX11_ofAge 1 = .ok (.aload_n 0, 1) := by decide +kernel
theorem dX11_ofAge_2 : decode cX11_ofAge 2 = .ok (.iload_n 1, 1) := by decide +kernel
theorem dX11_ofAge_3 : decode cX11_ofAge 3 = .ok (.invokevirtual 155, 3) := by decide +kernel
theorem dX11_ofAge_6 : decode cX11_ofAge 6 = .ok (.invokevirtual 110, 3) := by decide +kernel
theorem dX11_ofAge_9 : decode cX11_ofAge 9 = .ok (.ifCond .eq 5, 3) := by decide +kernel
theorem dX11_ofAge_12 : decode cX11_ofAge 12 = .ok (.iconst (-1), 1) := by decide +kernel
theorem dX11_ofAge_13 : decode cX11_ofAge 13 = .ok (.ireturn, 1) := by decide +kernel
theorem dX11_ofAge_14 : decode cX11_ofAge 14 = .ok (.iconst 0, 1) := by decide +kernel
theorem dX11_ofAge_15 : decode cX11_ofAge 15 = .ok (.istore_n 2, 1) := by decide +kernel
theorem dX11_ofAge_16 : decode cX11_ofAge 16 = .ok (.iconst 0, 1) := by decide +kernel
theorem dX11_ofAge_17 : decode cX11_ofAge 17 = .ok (.istore_n 3, 1) := by decide +kernel
theorem dX11_ofAge_18 : decode cX11_ofAge 18 = .ok (.iload_n 3, 1) := by decide +kernel
theorem dX11_ofAge_19 : decode cX11_ofAge 19 = .ok (.bipush 30, 2) := by decide +kernel
theorem dX11_ofAge_21 : decode cX11_ofAge 21 = .ok (.if_icmp .gt 35, 3) := by decide +kernel
theorem dX11_ofAge_24 : decode cX11_ofAge 24 = .ok (.aload_n 0, 1) := by decide +kernel
theorem dX11_ofAge_25 : decode cX11_ofAge 25 = .ok (.getfield 32, 3) := by decide +kernel
theorem dX11_ofAge_28 : decode cX11_ofAge 28 = .ok (.iload_n 1, 1) := by decide +kernel
theorem dX11_ofAge_29 : decode cX11_ofAge 29 = .ok (.iload_n 3, 1) := by decide +kernel
theorem dX11_ofAge_30 : decode cX11_ofAge 30 = .ok (.aload_n 0, 1) := by decide +kernel
theorem dX11_ofAge_31 : decode cX11_ofAge 31 = .ok (.getfield 32, 3) := by decide +kernel
theorem dX11_ofAge_34 : decode cX11_ofAge 34 = .ok (.getfield 179, 3) := by decide +kernel
theorem dX11_ofAge_37 : decode cX11_ofAge 37 = .ok (.imul, 1) := by decide +kernel
theorem dX11_ofAge_38 : decode cX11_ofAge 38 = .ok (.invokevirtual 195, 3) := by decide +kernel
theorem dX11_ofAge_41 : decode cX11_ofAge 41 = .ok (.ifCond .eq 9, 3) := by decide +kernel
theorem dX11_ofAge_44 : decode cX11_ofAge 44 = .ok (.iload_n 2, 1) := by decide +kernel
theorem dX11_ofAge_45 : decode cX11_ofAge 45 = .ok (.iconst 1, 1) := by decide +kernel
theorem dX11_ofAge_46 : decode cX11_ofAge 46 = .ok (.iload_n 3, 1) := by decide +kernel
theorem dX11_ofAge_47 : decode cX11_ofAge 47 = .ok (.ishl, 1) := by decide +kernel
theorem dX11_ofAge_48 : decode cX11_ofAge 48 = .ok (.ior, 1) := by decide +kernel
theorem dX11_ofAge_49 : decode cX11_ofAge 49 = .ok (.istore_n 2, 1) := by decide +kernel
theorem dX11_ofAge_50 : decode cX11_ofAge 50 = .ok (.iinc 3 1, 3) := by decide +kernel
theorem dX11_ofAge_53 : decode cX11_ofAge 53 = .ok (.goto (-35), 3) := by decide +kernel
theorem dX11_ofAge_56 : decode cX11_ofAge 56 = .ok (.iload_n 2, 1) := by decide +kernel
theorem dX11_ofAge_57 : decode cX11_ofAge 57 = .ok (.ireturn, 1) := by decide +kernel
theorem dX11_alone_0 : decode cX11_alone 0 = .ok (.aload_n 0, 1) := by decide +kernel
theorem dX11_alone_1 : decode cX11_alone 1 = .ok (.aload_n 0, 1) := by decide +kernel
theorem dX11_alone_2 : decode cX11_alone 2 = .ok (.iload_n 1, 1) := by decide +kernel
theorem dX11_alone_3 : decode cX11_alone 3 = .ok (.invokevirtual 155, 3) := by decide +kernel
theorem dX11_alone_6 : decode cX11_alone 6 = .ok (.aload_n 0, 1) := by decide +kernel
theorem dX11_alone_7 : decode cX11_alone 7 = .ok (.iload_n 2, 1) := by decide +kernel
theorem dX11_alone_8 : decode cX11_alone 8 = .ok (.invokevirtual 176, 3) := by decide +kernel
theorem dX11_alone_11 : decode cX11_alone 11 = .ok (.invokestatic 140, 3) := by decide +kernel
theorem dX11_alone_14 : decode cX11_alone 14 = .ok (.invokevirtual 110, 3) := by decide +kernel
theorem dX11_alone_17 : decode cX11_alone 17 = .ok (.ifCond .eq 5, 3) := by decide +kernel
theorem dX11_alone_20 : decode cX11_alone 20 = .ok (.iconst (-1), 1) := by decide +kernel
theorem dX11_alone_21 : decode cX11_alone 21 = .ok (.ireturn, 1) := by decide +kernel
theorem dX11_alone_22 : decode cX11_alone 22 = .ok (.aload_n 0, 1) := by decide +kernel
theorem dX11_alone_23 : decode cX11_alone 23 = .ok (.getfield 32, 3) := by decide +kernel
theorem dX11_alone_26 : decode cX11_alone 26 = .ok (.iload_n 1, 1) := by decide +kernel
theorem dX11_alone_27 : decode cX11_alone 27 = .ok (.iload_n 2, 1) := by decide +kernel
theorem dX11_alone_28 : decode cX11_alone 28 = .ok (.aload_n 0, 1) := by decide +kernel
theorem dX11_alone_29 : decode cX11_alone 29 = .ok (.getfield 32, 3) := by decide +kernel
theorem dX11_alone_32 : decode cX11_alone 32 = .ok (.getfield 179, 3) := by decide +kernel
theorem dX11_alone_35 : decode cX11_alone 35 = .ok (.imul, 1) := by decide +kernel
theorem dX11_alone_36 : decode cX11_alone 36 = .ok (.invokevirtual 199, 3) := by decide +kernel
theorem dX11_alone_39 : decode cX11_alone 39 = .ok (.ireturn, 1) := by decide +kernel
theorem dX11_present_0 : decode cX11_present 0 = .ok (.aload_n 0, 1) := by decide +kernel
theorem dX11_present_1 : decode cX11_present 1 = .ok (.aload_n 0, 1) := by decide +kernel
theorem dX11_present_2 : decode cX11_present 2 = .ok (.invokevirtual 202, 3) := by decide +kernel
theorem dX11_present_5 : decode cX11_present 5 = .ok (.aload_n 0, 1) := by decide +kernel
theorem dX11_present_6 : decode cX11_present 6 = .ok (.iload_n 1, 1) := by decide +kernel
theorem dX11_present_7 : decode cX11_present 7 = .ok (.invokevirtual 176, 3) := by decide +kernel
theorem dX11_present_10 : decode cX11_present 10 = .ok (.invokestatic 140, 3) := by decide +kernel
theorem dX11_present_13 : decode cX11_present 13 = .ok (.invokevirtual 110, 3) := by decide +kernel
theorem dX11_present_16 : decode cX11_present 16 = .ok (.ifCond .eq 5, 3) := by decide +kernel
theorem dX11_present_19 : decode cX11_present 19 = .ok (.iconst (-1), 1) := by decide +kernel
theorem dX11_present_20 : decode cX11_present 20 = .ok (.ireturn, 1) := by decide +kernel
theorem dX11_present_21 : decode cX11_present 21 = .ok (.iconst 0, 1) := by decide +kernel
theorem dX11_present_22 : decode cX11_present 22 = .ok (.istore_n 2, 1) := by decide +kernel
theorem dX11_present_23 : decode cX11_present 23 = .ok (.iconst 0, 1) := by decide +kernel
theorem dX11_present_24 : decode cX11_present 24 = .ok (.istore_n 3, 1) := by decide +kernel
theorem dX11_present_25 : decode cX11_present 25 = .ok (.iload_n 3, 1) := by decide +kernel
theorem dX11_present_26 : decode cX11_present 26 = .ok (.aload_n 0, 1) := by decide +kernel
theorem dX11_present_27 : decode cX11_present 27 = .ok (.getfield 32, 3) := by decide +kernel
theorem dX11_present_30 : decode cX11_present 30 = .ok (.getfield 129, 3) := by decide +kernel
theorem dX11_present_33 : decode cX11_present 33 = .ok (.iconst 2, 1) := by decide +kernel
theorem dX11_present_34 : decode cX11_present 34 = .ok (.iaload, 1) := by decide +kernel
theorem dX11_present_35 : decode cX11_present 35 = .ok (.if_icmp .ge 27, 3) := by decide +kernel
theorem dX11_present_38 : decode cX11_present 38 = .ok (.aload_n 0, 1) := by decide +kernel
theorem dX11_present_39 : decode cX11_present 39 = .ok (.getfield 32, 3) := by decide +kernel
theorem dX11_present_42 : decode cX11_present 42 = .ok (.iload_n 3, 1) := by decide +kernel
theorem dX11_present_43 : decode cX11_present 43 = .ok (.iload_n 1, 1) := by decide +kernel
theorem dX11_present_44 : decode cX11_present 44 = .ok (.invokevirtual 182, 3) := by decide +kernel
theorem dX11_present_47 : decode cX11_present 47 = .ok (.ifCond .le 9, 3) := by decide +kernel
theorem dX11_present_50 : decode cX11_present 50 = .ok (.iload_n 2, 1) := by decide +kernel
theorem dX11_present_51 : decode cX11_present 51 = .ok (.iconst 1, 1) := by decide +kernel
theorem dX11_present_52 : decode cX11_present 52 = .ok (.iload_n 3, 1) := by decide +kernel
theorem dX11_present_53 : decode cX11_present 53 = .ok (.ishl, 1) := by decide +kernel
theorem dX11_present_54 : decode cX11_present 54 = .ok (.ior, 1) := by decide +kernel
theorem dX11_present_55 : decode cX11_present 55 = .ok (.istore_n 2, 1) := by decide +kernel
theorem dX11_present_56 : decode cX11_present 56 = .ok (.iinc 3 1, 3) := by decide +kernel
theorem dX11_present_59 : decode cX11_present 59 = .ok (.goto (-34), 3) := by decide +kernel
theorem dX11_present_62 : decode cX11_present 62 = .ok (.iload_n 2, 1) := by decide +kernel
theorem dX11_present_63 : decode cX11_present 63 = .ok (.ireturn, 1) := by decide +kernel
theorem dX11_belle_0 : decode cX11_belle 0 = .ok (.aload_n 0, 1) := by decide +kernel
theorem dX11_belle_1 : decode cX11_belle 1 = .ok (.aload_n 0, 1) := by decide +kernel
theorem dX11_belle_2 : decode cX11_belle 2 = .ok (.iload_n 1, 1) := by decide +kernel
theorem dX11_belle_3 : decode cX11_belle 3 = .ok (.invokevirtual 133, 3) := by decide +kernel
theorem dX11_belle_6 : decode cX11_belle 6 = .ok (.aload_n 0, 1) := by decide +kernel
theorem dX11_belle_7 : decode cX11_belle 7 = .ok (.iload_n 2, 1) := by decide +kernel
theorem dX11_belle_8 : decode cX11_belle 8 = .ok (.invokevirtual 176, 3) := by decide +kernel
theorem dX11_belle_11 : decode cX11_belle 11 = .ok (.invokestatic 140, 3) := by decide +kernel
theorem dX11_belle_14 : decode cX11_belle 14 = .ok (.invokevirtual 110, 3) := by decide +kernel
theorem dX11_belle_17 : decode cX11_belle 17 = .ok (.ifCond .eq 5, 3) := by decide +kernel
theorem dX11_belle_20 : decode cX11_belle 20 = .ok (.iconst (-1), 1) := by decide +kernel
theorem dX11_belle_21 : decode cX11_belle 21 = .ok (.ireturn, 1) := by decide +kernel
theorem dX11_belle_22 : decode cX11_belle 22 = .ok (.aload_n 0, 1) := by decide +kernel
theorem dX11_belle_23 : decode cX11_belle 23 = .ok (.getfield 32, 3) := by decide +kernel
theorem dX11_belle_26 : decode cX11_belle 26 = .ok (.iconst 1, 1) := by decide +kernel
theorem dX11_belle_27 : decode cX11_belle 27 = .ok (.iload_n 1, 1) := by decide +kernel
theorem dX11_belle_28 : decode cX11_belle 28 = .ok (.ishl, 1) := by decide +kernel
theorem dX11_belle_29 : decode cX11_belle 29 = .ok (.iconst 0, 1) := by decide +kernel
theorem dX11_belle_30 : decode cX11_belle 30 = .ok (.iload_n 2, 1) := by decide +kernel
theorem dX11_belle_31 : decode cX11_belle 31 = .ok (.invokevirtual 206, 3) := by decide +kernel
theorem dX11_belle_34 : decode cX11_belle 34 = .ok (.ireturn, 1) := by decide +kernel
theorem dX11_sevens_0 : decode cX11_sevens 0 = .ok (.aload_n 0, 1) := by decide +kernel
theorem dX11_sevens_1 : decode cX11_sevens 1 = .ok (.aload_n 0, 1) := by decide +kernel
theorem dX11_sevens_2 : decode cX11_sevens 2 = .ok (.iload_n 1, 1) := by decide +kernel
theorem dX11_sevens_3 : decode cX11_sevens 3 = .ok (.invokevirtual 133, 3) := by decide +kernel
theorem dX11_sevens_6 : decode cX11_sevens 6 = .ok (.aload_n 0, 1) := by decide +kernel
theorem dX11_sevens_7 : decode cX11_sevens 7 = .ok (.iload_n 2, 1) := by decide +kernel
theorem dX11_sevens_8 : decode cX11_sevens 8 = .ok (.invokevirtual 133, 3) := by decide +kernel
theorem dX11_sevens_11 : decode cX11_sevens 11 = .ok (.invokestatic 140, 3) := by decide +kernel
theorem dX11_sevens_14 : decode cX11_sevens 14 = .ok (.invokevirtual 110, 3) := by decide +kernel
theorem dX11_sevens_17 : decode cX11_sevens 17 = .ok (.ifCond .eq 5, 3) := by decide +kernel
theorem dX11_sevens_20 : decode cX11_sevens 20 = .ok (.iconst (-1), 1) := by decide +kernel
theorem dX11_sevens_21 : decode cX11_sevens 21 = .ok (.ireturn, 1) := by decide +kernel
theorem dX11_sevens_22 : decode cX11_sevens 22 = .ok (.aload_n 0, 1) := by decide +kernel
theorem dX11_sevens_23 : decode cX11_sevens 23 = .ok (.getfield 32, 3) := by decide +kernel
theorem dX11_sevens_26 : decode cX11_sevens 26 = .ok (.iload_n 1, 1) := by decide +kernel
theorem dX11_sevens_27 : decode cX11_sevens 27 = .ok (.iload_n 2, 1) := by decide +kernel
theorem dX11_sevens_28 : decode cX11_sevens 28 = .ok (.invokevirtual 209, 3) := by decide +kernel
theorem dX11_sevens_31 : decode cX11_sevens 31 = .ok (.ireturn, 1) := by decide +kernel
theorem dX11_byYears_0 : decode cX11_byYears 0 = .ok (.aload_n 0, 1) := by decide +kernel
theorem dX11_byYears_1 : decode cX11_byYears 1 = .ok (.aload_n 0, 1) := by decide +kernel
theorem dX11_byYears_2 : decode cX11_byYears 2 = .ok (.iload_n 1, 1) := by decide +kernel
theorem dX11_byYears_3 : decode cX11_byYears 3 = .ok (.invokevirtual 155, 3) := by decide +kernel
theorem dX11_byYears_6 : decode cX11_byYears 6 = .ok (.aload_n 0, 1) := by decide +kernel
theorem dX11_byYears_7 : decode cX11_byYears 7 = .ok (.iload_n 2, 1) := by decide +kernel
theorem dX11_byYears_8 : decode cX11_byYears 8 = .ok (.invokevirtual 176, 3) := by decide +kernel
theorem dX11_byYears_11 : decode cX11_byYears 11 = .ok (.iload_n 3, 1) := by decide +kernel
theorem dX11_byYears_12 : decode cX11_byYears 12 = .ok (.iconst 5, 1) := by decide +kernel
theorem dX11_byYears_13 : decode cX11_byYears 13 = .ok (.bipush 9, 2) := by decide +kernel
theorem dX11_byYears_15 : decode cX11_byYears 15 = .ok (.invokestatic 106, 3) := by decide +kernel
theorem dX11_byYears_18 : decode cX11_byYears 18 = .ok (.invokestatic 140, 3) := by decide +kernel
theorem dX11_byYears_21 : decode cX11_byYears 21 = .ok (.invokestatic 140, 3) := by decide +kernel
theorem dX11_byYears_24 : decode cX11_byYears 24 = .ok (.invokevirtual 110, 3) := by decide +kernel
theorem dX11_byYears_27 : decode cX11_byYears 27 = .ok (.ifCond .eq 5, 3) := by decide +kernel
theorem dX11_byYears_30 : decode cX11_byYears 30 = .ok (.iconst (-1), 1) := by decide +kernel
theorem dX11_byYears_31 : decode cX11_byYears 31 = .ok (.ireturn, 1) := by decide +kernel
theorem dX11_byYears_32 : decode cX11_byYears 32 = .ok (.aload_n 0, 1) := by decide +kernel
theorem dX11_byYears_33 : decode cX11_byYears 33 = .ok (.getfield 32, 3) := by decide +kernel
theorem dX11_byYears_36 : decode cX11_byYears 36 = .ok (.iload_n 1, 1) := by decide +kernel
theorem dX11_byYears_37 : decode cX11_byYears 37 = .ok (.iload_n 2, 1) := by decide +kernel
theorem dX11_byYears_38 : decode cX11_byYears 38 = .ok (.iload_n 3, 1) := by decide +kernel
theorem dX11_byYears_39 : decode cX11_byYears 39 = .ok (.imul, 1) := by decide +kernel
theorem dX11_byYears_40 : decode cX11_byYears 40 = .ok (.invokevirtual 212, 3) := by decide +kernel
theorem dX11_byYears_43 : decode cX11_byYears 43 = .ok (.ireturn, 1) := by decide +kernel
theorem dX11_bestYears_0 : decode cX11_bestYears 0 = .ok (.aload_n 0, 1) := by decide +kernel
theorem dX11_bestYears_1 : decode cX11_bestYears 1 = .ok (.aload_n 0, 1) := by decide +kernel
theorem dX11_bestYears_2 : decode cX11_bestYears 2 = .ok (.invokevirtual 202, 3) := by decide +kernel
theorem dX11_bestYears_5 : decode cX11_bestYears 5 = .ok (.aload_n 0, 1) := by decide +kernel
theorem dX11_bestYears_6 : decode cX11_bestYears 6 = .ok (.iload_n 1, 1) := by decide +kernel
theorem dX11_bestYears_7 : decode cX11_bestYears 7 = .ok (.invokevirtual 176, 3) := by decide +kernel
theorem dX11_bestYears_10 : decode cX11_bestYears 10 = .ok (.invokestatic 140, 3) := by decide +kernel
theorem dX11_bestYears_13 : decode cX11_bestYears 13 = .ok (.invokevirtual 110, 3) := by decide +kernel
theorem dX11_bestYears_16 : decode cX11_bestYears 16 = .ok (.ifCond .eq 5, 3) := by decide +kernel
theorem dX11_bestYears_19 : decode cX11_bestYears 19 = .ok (.iconst (-1), 1) := by decide +kernel
theorem dX11_bestYears_20 : decode cX11_bestYears 20 = .ok (.ireturn, 1) := by decide +kernel
theorem dX11_bestYears_21 : decode cX11_bestYears 21 = .ok (.iconst 5, 1) := by decide +kernel
theorem dX11_bestYears_22 : decode cX11_bestYears 22 = .ok (.istore_n 2, 1) := by decide +kernel
theorem dX11_bestYears_23 : decode cX11_bestYears 23 = .ok (.iconst (-1), 1) := by decide +kernel
theorem dX11_bestYears_24 : decode cX11_bestYears 24 = .ok (.istore_n 3, 1) := by decide +kernel
theorem dX11_bestYears_25 : decode cX11_bestYears 25 = .ok (.iconst 5, 1) := by decide +kernel
theorem dX11_bestYears_26 : decode cX11_bestYears 26 = .ok (.istore 4, 2) := by decide +kernel
theorem dX11_bestYears_28 : decode cX11_bestYears 28 = .ok (.iload 4, 2) := by decide +kernel
theorem dX11_bestYears_30 : decode cX11_bestYears 30 = .ok (.bipush 9, 2) := by decide +kernel
theorem dX11_bestYears_32 : decode cX11_bestYears 32 = .ok (.if_icmp .gt 34, 3) := by decide +kernel
theorem dX11_bestYears_35 : decode cX11_bestYears 35 = .ok (.aload_n 0, 1) := by decide +kernel
theorem dX11_bestYears_36 : decode cX11_bestYears 36 = .ok (.getfield 32, 3) := by decide +kernel
theorem dX11_bestYears_39 : decode cX11_bestYears 39 = .ok (.iload_n 1, 1) := by decide +kernel
theorem dX11_bestYears_40 : decode cX11_bestYears 40 = .ok (.iload 4, 2) := by decide +kernel
theorem dX11_bestYears_42 : decode cX11_bestYears 42 = .ok (.imul, 1) := by decide +kernel
theorem dX11_bestYears_43 : decode cX11_bestYears 43 = .ok (.invokevirtual 215, 3) := by decide +kernel
theorem dX11_bestYears_46 : decode cX11_bestYears 46 = .ok (.istore 5, 2) := by decide +kernel
theorem dX11_bestYears_48 : decode cX11_bestYears 48 = .ok (.iload 5, 2) := by decide +kernel
theorem dX11_bestYears_50 : decode cX11_bestYears 50 = .ok (.iload_n 3, 1) := by decide +kernel
theorem dX11_bestYears_51 : decode cX11_bestYears 51 = .ok (.if_icmp .le 9, 3) := by decide +kernel
theorem dX11_bestYears_54 : decode cX11_bestYears 54 = .ok (.iload 5, 2) := by decide +kernel
theorem dX11_bestYears_56 : decode cX11_bestYears 56 = .ok (.istore_n 3, 1) := by decide +kernel
theorem dX11_bestYears_57 : decode cX11_bestYears 57 = .ok (.iload 4, 2) := by decide +kernel
theorem dX11_bestYears_59 : decode cX11_bestYears 59 = .ok (.istore_n 2, 1) := by decide +kernel
theorem dX11_bestYears_60 : decode cX11_bestYears 60 = .ok (.iinc 4 1, 3) := by decide +kernel
theorem dX11_bestYears_63 : decode cX11_bestYears 63 = .ok (.goto (-35), 3) := by decide +kernel
theorem dX11_bestYears_66 : decode cX11_bestYears 66 = .ok (.iload_n 2, 1) := by decide +kernel
theorem dX11_bestYears_67 : decode cX11_bestYears 67 = .ok (.ireturn, 1) := by decide +kernel
theorem dX11_route_0 : decode cX11_route 0 = .ok (.aload_n 0, 1) := by decide +kernel
theorem dX11_route_1 : decode cX11_route 1 = .ok (.aload_n 0, 1) := by decide +kernel
theorem dX11_route_2 : decode cX11_route 2 = .ok (.iload_n 1, 1) := by decide +kernel
theorem dX11_route_3 : decode cX11_route 3 = .ok (.iconst 1, 1) := by decide +kernel
theorem dX11_route_4 : decode cX11_route 4 = .ok (.iconst 3, 1) := by decide +kernel
theorem dX11_route_5 : decode cX11_route 5 = .ok (.invokevirtual 218, 3) := by decide +kernel
theorem dX11_route_8 : decode cX11_route 8 = .ok (.invokevirtual 110, 3) := by decide +kernel
theorem dX11_route_11 : decode cX11_route 11 = .ok (.ifCond .eq 7, 3) := by decide +kernel
theorem dX11_route_14 : decode cX11_route 14 = .ok (.ldc2_w 185, 3) := by decide +kernel
theorem dX11_route_17 : decode cX11_route 17 = .ok (.lreturn, 1) := by decide +kernel
theorem dX11_route_18 : decode cX11_route 18 = .ok (.aload_n 0, 1) := by decide +kernel
theorem dX11_route_19 : decode cX11_route 19 = .ok (.getfield 53, 3) := by decide +kernel
theorem dX11_route_22 : decode cX11_route 22 = .ok (.aload_n 0, 1) := by decide +kernel
theorem dX11_route_23 : decode cX11_route 23 = .ok (.getfield 32, 3) := by decide +kernel
theorem dX11_route_26 : decode cX11_route 26 = .ok (.aload_n 0, 1) := by decide +kernel
theorem dX11_route_27 : decode cX11_route 27 = .ok (.getfield 39, 3) := by decide +kernel
theorem dX11_route_30 : decode cX11_route 30 = .ok (.iload_n 1, 1) := by decide +kernel
theorem dX11_route_31 : decode cX11_route 31 = .ok (.invokevirtual 221, 3) := by decide +kernel
theorem dX11_route_34 : decode cX11_route 34 = .ok (.aload_n 0, 1) := by decide +kernel
theorem dX11_route_35 : decode cX11_route 35 = .ok (.getfield 53, 3) := by decide +kernel
theorem dX11_route_38 : decode cX11_route 38 = .ok (.invokevirtual 225, 3) := by decide +kernel
theorem dX11_route_41 : decode cX11_route 41 = .ok (.aload_n 0, 1) := by decide +kernel
theorem dX11_route_42 : decode cX11_route 42 = .ok (.getfield 53, 3) := by decide +kernel
theorem dX11_route_45 : decode cX11_route 45 = .ok (.invokevirtual 229, 3) := by decide +kernel
theorem dX11_route_48 : decode cX11_route 48 = .ok (.iload_n 2, 1) := by decide +kernel
theorem dX11_route_49 : decode cX11_route 49 = .ok (.invokestatic 191, 3) := by decide +kernel
theorem dX11_route_52 : decode cX11_route 52 = .ok (.lreturn, 1) := by decide +kernel
theorem dX11_mean_0 : decode cX11_mean 0 = .ok (.aload_n 0, 1) := by decide +kernel
theorem dX11_mean_1 : decode cX11_mean 1 = .ok (.aload_n 0, 1) := by decide +kernel
theorem dX11_mean_2 : decode cX11_mean 2 = .ok (.iload_n 1, 1) := by decide +kernel
theorem dX11_mean_3 : decode cX11_mean 3 = .ok (.iconst 1, 1) := by decide +kernel
theorem dX11_mean_4 : decode cX11_mean 4 = .ok (.iconst 3, 1) := by decide +kernel
theorem dX11_mean_5 : decode cX11_mean 5 = .ok (.invokevirtual 218, 3) := by decide +kernel
theorem dX11_mean_8 : decode cX11_mean 8 = .ok (.invokevirtual 110, 3) := by decide +kernel
theorem dX11_mean_11 : decode cX11_mean 11 = .ok (.ifCond .eq 7, 3) := by decide +kernel
theorem dX11_mean_14 : decode cX11_mean 14 = .ok (.ldc2_w 185, 3) := by decide +kernel
theorem dX11_mean_17 : decode cX11_mean 17 = .ok (.lreturn, 1) := by decide +kernel
theorem dX11_mean_18 : decode cX11_mean 18 = .ok (.aload_n 0, 1) := by decide +kernel
theorem dX11_mean_19 : decode cX11_mean 19 = .ok (.getfield 53, 3) := by decide +kernel
theorem dX11_mean_22 : decode cX11_mean 22 = .ok (.aload_n 0, 1) := by decide +kernel
theorem dX11_mean_23 : decode cX11_mean 23 = .ok (.getfield 32, 3) := by decide +kernel
theorem dX11_mean_26 : decode cX11_mean 26 = .ok (.aload_n 0, 1) := by decide +kernel
theorem dX11_mean_27 : decode cX11_mean 27 = .ok (.getfield 39, 3) := by decide +kernel
theorem dX11_mean_30 : decode cX11_mean 30 = .ok (.iload_n 1, 1) := by decide +kernel
theorem dX11_mean_31 : decode cX11_mean 31 = .ok (.invokevirtual 221, 3) := by decide +kernel
theorem dX11_mean_34 : decode cX11_mean 34 = .ok (.aload_n 0, 1) := by decide +kernel
theorem dX11_mean_35 : decode cX11_mean 35 = .ok (.getfield 53, 3) := by decide +kernel
theorem dX11_mean_38 : decode cX11_mean 38 = .ok (.invokevirtual 232, 3) := by decide +kernel
theorem dX11_mean_41 : decode cX11_mean 41 = .ok (.aload_n 0, 1) := by decide +kernel
theorem dX11_mean_42 : decode cX11_mean 42 = .ok (.getfield 32, 3) := by decide +kernel
theorem dX11_mean_45 : decode cX11_mean 45 = .ok (.bipush 100, 2) := by decide +kernel
theorem dX11_mean_47 : decode cX11_mean 47 = .ok (.invokevirtual 187, 3) := by decide +kernel
theorem dX11_mean_50 : decode cX11_mean 50 = .ok (.iload_n 2, 1) := by decide +kernel
theorem dX11_mean_51 : decode cX11_mean 51 = .ok (.invokestatic 191, 3) := by decide +kernel
theorem dX11_mean_54 : decode cX11_mean 54 = .ok (.lreturn, 1) := by decide +kernel
theorem dX11_routeAt_0 : decode cX11_routeAt 0 = .ok (.aload_n 0, 1) := by decide +kernel
theorem dX11_routeAt_1 : decode cX11_routeAt 1 = .ok (.aload_n 0, 1) := by decide +kernel
theorem dX11_routeAt_2 : decode cX11_routeAt 2 = .ok (.iload_n 1, 1) := by decide +kernel
theorem dX11_routeAt_3 : decode cX11_routeAt 3 = .ok (.iconst 1, 1) := by decide +kernel
theorem dX11_routeAt_4 : decode cX11_routeAt 4 = .ok (.iconst 3, 1) := by decide +kernel
theorem dX11_routeAt_5 : decode cX11_routeAt 5 = .ok (.invokevirtual 218, 3) := by decide +kernel
theorem dX11_routeAt_8 : decode cX11_routeAt 8 = .ok (.invokevirtual 110, 3) := by decide +kernel
theorem dX11_routeAt_11 : decode cX11_routeAt 11 = .ok (.ifCond .eq 5, 3) := by decide +kernel
theorem dX11_routeAt_14 : decode cX11_routeAt 14 = .ok (.iconst (-1), 1) := by decide +kernel
theorem dX11_routeAt_15 : decode cX11_routeAt 15 = .ok (.ireturn, 1) := by decide +kernel
theorem dX11_routeAt_16 : decode cX11_routeAt 16 = .ok (.aload_n 0, 1) := by decide +kernel
theorem dX11_routeAt_17 : decode cX11_routeAt 17 = .ok (.getfield 53, 3) := by decide +kernel
theorem dX11_routeAt_20 : decode cX11_routeAt 20 = .ok (.aload_n 0, 1) := by decide +kernel
theorem dX11_routeAt_21 : decode cX11_routeAt 21 = .ok (.getfield 32, 3) := by decide +kernel
theorem dX11_routeAt_24 : decode cX11_routeAt 24 = .ok (.aload_n 0, 1) := by decide +kernel
theorem dX11_routeAt_25 : decode cX11_routeAt 25 = .ok (.getfield 39, 3) := by decide +kernel
theorem dX11_routeAt_28 : decode cX11_routeAt 28 = .ok (.iload_n 1, 1) := by decide +kernel
theorem dX11_routeAt_29 : decode cX11_routeAt 29 = .ok (.invokevirtual 221, 3) := by decide +kernel
theorem dX11_routeAt_32 : decode cX11_routeAt 32 = .ok (.aload_n 0, 1) := by decide +kernel
theorem dX11_routeAt_33 : decode cX11_routeAt 33 = .ok (.aload_n 0, 1) := by decide +kernel
theorem dX11_routeAt_34 : decode cX11_routeAt 34 = .ok (.getfield 53, 3) := by decide +kernel
theorem dX11_routeAt_37 : decode cX11_routeAt 37 = .ok (.getfield 235, 3) := by decide +kernel
theorem dX11_routeAt_40 : decode cX11_routeAt 40 = .ok (.ifCond .ne 8, 3) := by decide +kernel
theorem dX11_routeAt_43 : decode cX11_routeAt 43 = .ok (.bipush 6, 2) := by decide +kernel
theorem dX11_routeAt_45 : decode cX11_routeAt 45 = .ok (.goto 4, 3) := by decide +kernel
theorem dX11_routeAt_48 : decode cX11_routeAt 48 = .ok (.iconst 0, 1) := by decide +kernel
theorem dX11_routeAt_49 : decode cX11_routeAt 49 = .ok (.iload_n 2, 1) := by decide +kernel
theorem dX11_routeAt_50 : decode cX11_routeAt 50 = .ok (.iload_n 1, 1) := by decide +kernel
theorem dX11_routeAt_51 : decode cX11_routeAt 51 = .ok (.invokestatic 136, 3) := by decide +kernel
theorem dX11_routeAt_54 : decode cX11_routeAt 54 = .ok (.invokestatic 140, 3) := by decide +kernel
theorem dX11_routeAt_57 : decode cX11_routeAt 57 = .ok (.invokevirtual 110, 3) := by decide +kernel
theorem dX11_routeAt_60 : decode cX11_routeAt 60 = .ok (.ifCond .eq 5, 3) := by decide +kernel
theorem dX11_routeAt_63 : decode cX11_routeAt 63 = .ok (.iconst (-1), 1) := by decide +kernel
theorem dX11_routeAt_64 : decode cX11_routeAt 64 = .ok (.ireturn, 1) := by decide +kernel
theorem dX11_routeAt_65 : decode cX11_routeAt 65 = .ok (.aload_n 0, 1) := by decide +kernel
theorem dX11_routeAt_66 : decode cX11_routeAt 66 = .ok (.getfield 53, 3) := by decide +kernel
theorem dX11_routeAt_69 : decode cX11_routeAt 69 = .ok (.getfield 238, 3) := by decide +kernel
theorem dX11_routeAt_72 : decode cX11_routeAt 72 = .ok (.iload_n 2, 1) := by decide +kernel
theorem dX11_routeAt_73 : decode cX11_routeAt 73 = .ok (.iaload, 1) := by decide +kernel
theorem dX11_routeAt_74 : decode cX11_routeAt 74 = .ok (.ireturn, 1) := by decide +kernel
theorem dX11_routes_0 : decode cX11_routes 0 = .ok (.aload_n 0, 1) := by decide +kernel
theorem dX11_routes_1 : decode cX11_routes 1 = .ok (.aload_n 0, 1) := by decide +kernel
theorem dX11_routes_2 : decode cX11_routes 2 = .ok (.iload_n 1, 1) := by decide +kernel
theorem dX11_routes_3 : decode cX11_routes 3 = .ok (.iconst 1, 1) := by decide +kernel
theorem dX11_routes_4 : decode cX11_routes 4 = .ok (.iconst 3, 1) := by decide +kernel
theorem dX11_routes_5 : decode cX11_routes 5 = .ok (.invokevirtual 218, 3) := by decide +kernel
theorem dX11_routes_8 : decode cX11_routes 8 = .ok (.invokevirtual 110, 3) := by decide +kernel
theorem dX11_routes_11 : decode cX11_routes 11 = .ok (.ifCond .eq 5, 3) := by decide +kernel
theorem dX11_routes_14 : decode cX11_routes 14 = .ok (.iconst (-1), 1) := by decide +kernel
theorem dX11_routes_15 : decode cX11_routes 15 = .ok (.ireturn, 1) := by decide +kernel
theorem dX11_routes_16 : decode cX11_routes 16 = .ok (.aload_n 0, 1) := by decide +kernel
theorem dX11_routes_17 : decode cX11_routes 17 = .ok (.getfield 53, 3) := by decide +kernel
theorem dX11_routes_20 : decode cX11_routes 20 = .ok (.aload_n 0, 1) := by decide +kernel
theorem dX11_routes_21 : decode cX11_routes 21 = .ok (.getfield 32, 3) := by decide +kernel
theorem dX11_routes_24 : decode cX11_routes 24 = .ok (.aload_n 0, 1) := by decide +kernel
theorem dX11_routes_25 : decode cX11_routes 25 = .ok (.getfield 39, 3) := by decide +kernel
theorem dX11_routes_28 : decode cX11_routes 28 = .ok (.iload_n 1, 1) := by decide +kernel
theorem dX11_routes_29 : decode cX11_routes 29 = .ok (.invokevirtual 221, 3) := by decide +kernel
theorem dX11_routes_32 : decode cX11_routes 32 = .ok (.aload_n 0, 1) := by decide +kernel
theorem dX11_routes_33 : decode cX11_routes 33 = .ok (.getfield 53, 3) := by decide +kernel
theorem dX11_routes_36 : decode cX11_routes 36 = .ok (.getfield 235, 3) := by decide +kernel
theorem dX11_routes_39 : decode cX11_routes 39 = .ok (.ireturn, 1) := by decide +kernel
theorem dX11_letters_0 : decode cX11_letters 0 = .ok (.aload_n 0, 1) := by decide +kernel
theorem dX11_letters_1 : decode cX11_letters 1 = .ok (.aload_n 0, 1) := by decide +kernel
theorem dX11_letters_2 : decode cX11_letters 2 = .ok (.iload_n 1, 1) := by decide +kernel
theorem dX11_letters_3 : decode cX11_letters 3 = .ok (.iconst 0, 1) := by decide +kernel
theorem dX11_letters_4 : decode cX11_letters 4 = .ok (.iconst 5, 1) := by decide +kernel
theorem dX11_letters_5 : decode cX11_letters 5 = .ok (.invokevirtual 218, 3) := by decide +kernel
theorem dX11_letters_8 : decode cX11_letters 8 = .ok (.invokevirtual 110, 3) := by decide +kernel
theorem dX11_letters_11 : decode cX11_letters 11 = .ok (.ifCond .eq 5, 3) := by decide +kernel
theorem dX11_letters_14 : decode cX11_letters 14 = .ok (.iconst (-1), 1) := by decide +kernel
theorem dX11_letters_15 : decode cX11_letters 15 = .ok (.ireturn, 1) := by decide +kernel
theorem dX11_letters_16 : decode cX11_letters 16 = .ok (.aload_n 0, 1) := by decide +kernel
theorem dX11_letters_17 : decode cX11_letters 17 = .ok (.getfield 60, 3) := by decide +kernel
theorem dX11_letters_20 : decode cX11_letters 20 = .ok (.aload_n 0, 1) := by decide +kernel
theorem dX11_letters_21 : decode cX11_letters 21 = .ok (.getfield 32, 3) := by decide +kernel
theorem dX11_letters_24 : decode cX11_letters 24 = .ok (.aload_n 0, 1) := by decide +kernel
theorem dX11_letters_25 : decode cX11_letters 25 = .ok (.getfield 39, 3) := by decide +kernel
theorem dX11_letters_28 : decode cX11_letters 28 = .ok (.iload_n 1, 1) := by decide +kernel
theorem dX11_letters_29 : decode cX11_letters 29 = .ok (.invokevirtual 241, 3) := by decide +kernel
theorem dX11_letters_32 : decode cX11_letters 32 = .ok (.aload_n 0, 1) := by decide +kernel
theorem dX11_letters_33 : decode cX11_letters 33 = .ok (.getfield 60, 3) := by decide +kernel
theorem dX11_letters_36 : decode cX11_letters 36 = .ok (.getfield 242, 3) := by decide +kernel
theorem dX11_letters_39 : decode cX11_letters 39 = .ok (.ireturn, 1) := by decide +kernel
theorem dX11_lettersAt_0 : decode cX11_lettersAt 0 = .ok (.aload_n 0, 1) := by decide +kernel
theorem dX11_lettersAt_1 : decode cX11_lettersAt 1 = .ok (.aload_n 0, 1) := by decide +kernel
theorem dX11_lettersAt_2 : decode cX11_lettersAt 2 = .ok (.iload_n 1, 1) := by decide +kernel
theorem dX11_lettersAt_3 : decode cX11_lettersAt 3 = .ok (.iconst 0, 1) := by decide +kernel
theorem dX11_lettersAt_4 : decode cX11_lettersAt 4 = .ok (.iconst 5, 1) := by decide +kernel
theorem dX11_lettersAt_5 : decode cX11_lettersAt 5 = .ok (.invokevirtual 218, 3) := by decide +kernel
theorem dX11_lettersAt_8 : decode cX11_lettersAt 8 = .ok (.iload_n 2, 1) := by decide +kernel
theorem dX11_lettersAt_9 : decode cX11_lettersAt 9 = .ok (.iload_n 1, 1) := by decide +kernel
theorem dX11_lettersAt_10 : decode cX11_lettersAt 10 = .ok (.invokestatic 136, 3) := by decide +kernel
theorem dX11_lettersAt_13 : decode cX11_lettersAt 13 = .ok (.invokestatic 140, 3) := by decide +kernel
theorem dX11_lettersAt_16 : decode cX11_lettersAt 16 = .ok (.invokevirtual 110, 3) := by decide +kernel
theorem dX11_lettersAt_19 : decode cX11_lettersAt 19 = .ok (.ifCond .eq 5, 3) := by decide +kernel
theorem dX11_lettersAt_22 : decode cX11_lettersAt 22 = .ok (.iconst (-1), 1) := by decide +kernel
theorem dX11_lettersAt_23 : decode cX11_lettersAt 23 = .ok (.ireturn, 1) := by decide +kernel
theorem dX11_lettersAt_24 : decode cX11_lettersAt 24 = .ok (.aload_n 0, 1) := by decide +kernel
theorem dX11_lettersAt_25 : decode cX11_lettersAt 25 = .ok (.getfield 60, 3) := by decide +kernel
theorem dX11_lettersAt_28 : decode cX11_lettersAt 28 = .ok (.aload_n 0, 1) := by decide +kernel
theorem dX11_lettersAt_29 : decode cX11_lettersAt 29 = .ok (.getfield 32, 3) := by decide +kernel
theorem dX11_lettersAt_32 : decode cX11_lettersAt 32 = .ok (.aload_n 0, 1) := by decide +kernel
theorem dX11_lettersAt_33 : decode cX11_lettersAt 33 = .ok (.getfield 39, 3) := by decide +kernel
theorem dX11_lettersAt_36 : decode cX11_lettersAt 36 = .ok (.iload_n 1, 1) := by decide +kernel
theorem dX11_lettersAt_37 : decode cX11_lettersAt 37 = .ok (.invokevirtual 241, 3) := by decide +kernel
theorem dX11_lettersAt_40 : decode cX11_lettersAt 40 = .ok (.aload_n 0, 1) := by decide +kernel
theorem dX11_lettersAt_41 : decode cX11_lettersAt 41 = .ok (.getfield 60, 3) := by decide +kernel
theorem dX11_lettersAt_44 : decode cX11_lettersAt 44 = .ok (.getfield 245, 3) := by decide +kernel
theorem dX11_lettersAt_47 : decode cX11_lettersAt 47 = .ok (.iload_n 2, 1) := by decide +kernel
theorem dX11_lettersAt_48 : decode cX11_lettersAt 48 = .ok (.iaload, 1) := by decide +kernel
theorem dX11_lettersAt_49 : decode cX11_lettersAt 49 = .ok (.ireturn, 1) := by decide +kernel
theorem dX11_lost_0 : decode cX11_lost 0 = .ok (.aload_n 0, 1) := by decide +kernel
theorem dX11_lost_1 : decode cX11_lost 1 = .ok (.aload_n 0, 1) := by decide +kernel
theorem dX11_lost_2 : decode cX11_lost 2 = .ok (.invokevirtual 202, 3) := by decide +kernel
theorem dX11_lost_5 : decode cX11_lost 5 = .ok (.invokevirtual 110, 3) := by decide +kernel
theorem dX11_lost_8 : decode cX11_lost 8 = .ok (.ifCond .eq 5, 3) := by decide +kernel
theorem dX11_lost_11 : decode cX11_lost 11 = .ok (.iconst (-1), 1) := by decide +kernel
theorem dX11_lost_12 : decode cX11_lost 12 = .ok (.ireturn, 1) := by decide +kernel
theorem dX11_lost_13 : decode cX11_lost 13 = .ok (.iconst 0, 1) := by decide +kernel
theorem dX11_lost_14 : decode cX11_lost 14 = .ok (.istore_n 1, 1) := by decide +kernel
theorem dX11_lost_15 : decode cX11_lost 15 = .ok (.iconst 0, 1) := by decide +kernel
theorem dX11_lost_16 : decode cX11_lost 16 = .ok (.istore_n 2, 1) := by decide +kernel
theorem dX11_lost_17 : decode cX11_lost 17 = .ok (.iload_n 2, 1) := by decide +kernel
theorem dX11_lost_18 : decode cX11_lost 18 = .ok (.aload_n 0, 1) := by decide +kernel
theorem dX11_lost_19 : decode cX11_lost 19 = .ok (.getfield 32, 3) := by decide +kernel
theorem dX11_lost_22 : decode cX11_lost 22 = .ok (.getfield 129, 3) := by decide +kernel
theorem dX11_lost_25 : decode cX11_lost 25 = .ok (.iconst 4, 1) := by decide +kernel
theorem dX11_lost_26 : decode cX11_lost 26 = .ok (.iaload, 1) := by decide +kernel
theorem dX11_lost_27 : decode cX11_lost 27 = .ok (.if_icmp .ge 48, 3) := by decide +kernel
theorem dX11_lost_30 : decode cX11_lost 30 = .ok (.aload_n 0, 1) := by decide +kernel
theorem dX11_lost_31 : decode cX11_lost 31 = .ok (.aload_n 0, 1) := by decide +kernel
theorem dX11_lost_32 : decode cX11_lost 32 = .ok (.getfield 32, 3) := by decide +kernel
theorem dX11_lost_35 : decode cX11_lost 35 = .ok (.getfield 246, 3) := by decide +kernel
theorem dX11_lost_38 : decode cX11_lost 38 = .ok (.iload_n 2, 1) := by decide +kernel
theorem dX11_lost_39 : decode cX11_lost 39 = .ok (.iaload, 1) := by decide +kernel
theorem dX11_lost_40 : decode cX11_lost 40 = .ok (.invokevirtual 249, 3) := by decide +kernel
theorem dX11_lost_43 : decode cX11_lost 43 = .ok (.istore_n 3, 1) := by decide +kernel
theorem dX11_lost_44 : decode cX11_lost 44 = .ok (.iload_n 3, 1) := by decide +kernel
theorem dX11_lost_45 : decode cX11_lost 45 = .ok (.bipush (-2), 2) := by decide +kernel
theorem dX11_lost_47 : decode cX11_lost 47 = .ok (.if_icmp .eq 16, 3) := by decide +kernel
theorem dX11_lost_50 : decode cX11_lost 50 = .ok (.iload_n 3, 1) := by decide +kernel
theorem dX11_lost_51 : decode cX11_lost 51 = .ok (.aload_n 0, 1) := by decide +kernel
theorem dX11_lost_52 : decode cX11_lost 52 = .ok (.getfield 32, 3) := by decide +kernel
theorem dX11_lost_55 : decode cX11_lost 55 = .ok (.getfield 252, 3) := by decide +kernel
theorem dX11_lost_58 : decode cX11_lost 58 = .ok (.iload_n 2, 1) := by decide +kernel
theorem dX11_lost_59 : decode cX11_lost 59 = .ok (.iaload, 1) := by decide +kernel
theorem dX11_lost_60 : decode cX11_lost 60 = .ok (.if_icmp .le 9, 3) := by decide +kernel
theorem dX11_lost_63 : decode cX11_lost 63 = .ok (.iload_n 1, 1) := by decide +kernel
theorem dX11_lost_64 : decode cX11_lost 64 = .ok (.iconst 1, 1) := by decide +kernel
theorem dX11_lost_65 : decode cX11_lost 65 = .ok (.iload_n 2, 1) := by decide +kernel
theorem dX11_lost_66 : decode cX11_lost 66 = .ok (.ishl, 1) := by decide +kernel
theorem dX11_lost_67 : decode cX11_lost 67 = .ok (.ior, 1) := by decide +kernel
theorem dX11_lost_68 : decode cX11_lost 68 = .ok (.istore_n 1, 1) := by decide +kernel
theorem dX11_lost_69 : decode cX11_lost 69 = .ok (.iinc 2 1, 3) := by decide +kernel
theorem dX11_lost_72 : decode cX11_lost 72 = .ok (.goto (-55), 3) := by decide +kernel
theorem dX11_lost_75 : decode cX11_lost 75 = .ok (.iload_n 1, 1) := by decide +kernel
theorem dX11_lost_76 : decode cX11_lost 76 = .ok (.aload_n 0, 1) := by decide +kernel
theorem dX11_lost_77 : decode cX11_lost 77 = .ok (.getfield 39, 3) := by decide +kernel
theorem dX11_lost_80 : decode cX11_lost 80 = .ok (.getfield 255, 3) := by decide +kernel
theorem dX11_lost_83 : decode cX11_lost 83 = .ok (.iconst (-1), 1) := by decide +kernel
theorem dX11_lost_84 : decode cX11_lost 84 = .ok (.ixor, 1) := by decide +kernel
theorem dX11_lost_85 : decode cX11_lost 85 = .ok (.iand, 1) := by decide +kernel
theorem dX11_lost_86 : decode cX11_lost 86 = .ok (.ireturn, 1) := by decide +kernel
theorem dX11_soonest_0 : decode cX11_soonest 0 = .ok (.aload_n 0, 1) := by decide +kernel
theorem dX11_soonest_1 : decode cX11_soonest 1 = .ok (.aload_n 0, 1) := by decide +kernel
theorem dX11_soonest_2 : decode cX11_soonest 2 = .ok (.iload_n 1, 1) := by decide +kernel
theorem dX11_soonest_3 : decode cX11_soonest 3 = .ok (.invokevirtual 133, 3) := by decide +kernel
theorem dX11_soonest_6 : decode cX11_soonest 6 = .ok (.invokevirtual 110, 3) := by decide +kernel
theorem dX11_soonest_9 : decode cX11_soonest 9 = .ok (.ifCond .eq 5, 3) := by decide +kernel
theorem dX11_soonest_12 : decode cX11_soonest 12 = .ok (.iconst (-1), 1) := by decide +kernel
theorem dX11_soonest_13 : decode cX11_soonest 13 = .ok (.ireturn, 1) := by decide +kernel
theorem dX11_soonest_14 : decode cX11_soonest 14 = .ok (.aload_n 0, 1) := by decide +kernel
theorem dX11_soonest_15 : decode cX11_soonest 15 = .ok (.iload_n 1, 1) := by decide +kernel
theorem dX11_soonest_16 : decode cX11_soonest 16 = .ok (.invokevirtual 249, 3) := by decide +kernel
theorem dX11_soonest_19 : decode cX11_soonest 19 = .ok (.ireturn, 1) := by decide +kernel
theorem dX11_bells_0 : decode cX11_bells 0 = .ok (.aload_n 0, 1) := by decide +kernel
theorem dX11_bells_1 : decode cX11_bells 1 = .ok (.aload_n 0, 1) := by decide +kernel
theorem dX11_bells_2 : decode cX11_bells 2 = .ok (.invokevirtual 202, 3) := by decide +kernel
theorem dX11_bells_5 : decode cX11_bells 5 = .ok (.invokevirtual 110, 3) := by decide +kernel
theorem dX11_bells_8 : decode cX11_bells 8 = .ok (.ifCond .eq 5, 3) := by decide +kernel
theorem dX11_bells_11 : decode cX11_bells 11 = .ok (.iconst (-1), 1) := by decide +kernel
theorem dX11_bells_12 : decode cX11_bells 12 = .ok (.ireturn, 1) := by decide +kernel
theorem dX11_bells_13 : decode cX11_bells 13 = .ok (.aload_n 0, 1) := by decide +kernel
theorem dX11_bells_14 : decode cX11_bells 14 = .ok (.getfield 32, 3) := by decide +kernel
theorem dX11_bells_17 : decode cX11_bells 17 = .ok (.invokevirtual 258, 3) := by decide +kernel
theorem dX11_bells_20 : decode cX11_bells 20 = .ok (.ireturn, 1) := by decide +kernel
theorem dX11_bid_0 : decode cX11_bid 0 = .ok (.iload_n 1, 1) := by decide +kernel
theorem dX11_bid_1 : decode cX11_bid 1 = .ok (.iconst 0, 1) := by decide +kernel
theorem dX11_bid_2 : decode cX11_bid 2 = .ok (.bipush 99, 2) := by decide +kernel
theorem dX11_bid_4 : decode cX11_bid 4 = .ok (.invokestatic 106, 3) := by decide +kernel
theorem dX11_bid_7 : decode cX11_bid 7 = .ok (.iload_n 2, 1) := by decide +kernel
theorem dX11_bid_8 : decode cX11_bid 8 = .ok (.iconst 0, 1) := by decide +kernel
theorem dX11_bid_9 : decode cX11_bid 9 = .ok (.bipush 9, 2) := by decide +kernel
theorem dX11_bid_11 : decode cX11_bid 11 = .ok (.invokestatic 106, 3) := by decide +kernel
theorem dX11_bid_14 : decode cX11_bid 14 = .ok (.iload_n 3, 1) := by decide +kernel
theorem dX11_bid_15 : decode cX11_bid 15 = .ok (.iconst 0, 1) := by decide +kernel
theorem dX11_bid_16 : decode cX11_bid 16 = .ok (.bipush 9, 2) := by decide +kernel
theorem dX11_bid_18 : decode cX11_bid 18 = .ok (.invokestatic 106, 3) := by decide +kernel
theorem dX11_bid_21 : decode cX11_bid 21 = .ok (.invokestatic 140, 3) := by decide +kernel
theorem dX11_bid_24 : decode cX11_bid 24 = .ok (.invokestatic 140, 3) := by decide +kernel
theorem dX11_bid_27 : decode cX11_bid 27 = .ok (.istore 5, 2) := by decide +kernel
theorem dX11_bid_29 : decode cX11_bid 29 = .ok (.aload_n 0, 1) := by decide +kernel
theorem dX11_bid_30 : decode cX11_bid 30 = .ok (.aload_n 0, 1) := by decide +kernel
theorem dX11_bid_31 : decode cX11_bid 31 = .ok (.invokevirtual 202, 3) := by decide +kernel
theorem dX11_bid_34 : decode cX11_bid 34 = .ok (.iload 5, 2) := by decide +kernel
theorem dX11_bid_36 : decode cX11_bid 36 = .ok (.invokestatic 140, 3) := by decide +kernel
theorem dX11_bid_39 : decode cX11_bid 39 = .ok (.invokevirtual 110, 3) := by decide +kernel
theorem dX11_bid_42 : decode cX11_bid 42 = .ok (.ifCond .eq 6, 3) := by decide +kernel
theorem dX11_bid_45 : decode cX11_bid 45 = .ok (.bipush (-100), 2) := by decide +kernel
theorem dX11_bid_47 : decode cX11_bid 47 = .ok (.ireturn, 1) := by decide +kernel
theorem dX11_bid_48 : decode cX11_bid 48 = .ok (.iload 4, 2) := by decide +kernel
theorem dX11_bid_50 : decode cX11_bid 50 = .ok (.ifCond .eq 12, 3) := by decide +kernel
theorem dX11_bid_53 : decode cX11_bid 53 = .ok (.iload_n 1, 1) := by decide +kernel
theorem dX11_bid_54 : decode cX11_bid 54 = .ok (.iload_n 2, 1) := by decide +kernel
theorem dX11_bid_55 : decode cX11_bid 55 = .ok (.iload_n 3, 1) := by decide +kernel
theorem dX11_bid_56 : decode cX11_bid 56 = .ok (.invokestatic 261, 3) := by decide +kernel
theorem dX11_bid_59 : decode cX11_bid 59 = .ok (.goto 8, 3) := by decide +kernel
theorem dX11_bid_62 : decode cX11_bid 62 = .ok (.iload_n 2, 1) := by decide +kernel
theorem dX11_bid_63 : decode cX11_bid 63 = .ok (.iload_n 3, 1) := by decide +kernel
theorem dX11_bid_64 : decode cX11_bid 64 = .ok (.invokestatic 266, 3) := by decide +kernel
theorem dX11_bid_67 : decode cX11_bid 67 = .ok (.ireturn, 1) := by decide +kernel
theorem dX11_rests_0 : decode cX11_rests 0 = .ok (.aload_n 0, 1) := by decide +kernel
theorem dX11_rests_1 : decode cX11_rests 1 = .ok (.aload_n 0, 1) := by decide +kernel
theorem dX11_rests_2 : decode cX11_rests 2 = .ok (.invokevirtual 202, 3) := by decide +kernel
theorem dX11_rests_5 : decode cX11_rests 5 = .ok (.iload_n 1, 1) := by decide +kernel
theorem dX11_rests_6 : decode cX11_rests 6 = .ok (.iconst 0, 1) := by decide +kernel
theorem dX11_rests_7 : decode cX11_rests 7 = .ok (.bipush 99, 2) := by decide +kernel
theorem dX11_rests_9 : decode cX11_rests 9 = .ok (.invokestatic 106, 3) := by decide +kernel
theorem dX11_rests_12 : decode cX11_rests 12 = .ok (.invokestatic 140, 3) := by decide +kernel
theorem dX11_rests_15 : decode cX11_rests 15 = .ok (.invokevirtual 110, 3) := by decide +kernel
theorem dX11_rests_18 : decode cX11_rests 18 = .ok (.ifCond .eq 5, 3) := by decide +kernel
theorem dX11_rests_21 : decode cX11_rests 21 = .ok (.iconst (-1), 1) := by decide +kernel
theorem dX11_rests_22 : decode cX11_rests 22 = .ok (.ireturn, 1) := by decide +kernel
theorem dX11_rests_23 : decode cX11_rests 23 = .ok (.iconst 0, 1) := by decide +kernel
theorem dX11_rests_24 : decode cX11_rests 24 = .ok (.istore_n 2, 1) := by decide +kernel
theorem dX11_rests_25 : decode cX11_rests 25 = .ok (.iconst 0, 1) := by decide +kernel
theorem dX11_rests_26 : decode cX11_rests 26 = .ok (.istore_n 3, 1) := by decide +kernel
theorem dX11_rests_27 : decode cX11_rests 27 = .ok (.iload_n 3, 1) := by decide +kernel
theorem dX11_rests_28 : decode cX11_rests 28 = .ok (.bipush 100, 2) := by decide +kernel
theorem dX11_rests_30 : decode cX11_rests 30 = .ok (.if_icmp .ge 27, 3) := by decide +kernel
theorem dX11_rests_33 : decode cX11_rests 33 = .ok (.iload_n 1, 1) := by decide +kernel
theorem dX11_rests_34 : decode cX11_rests 34 = .ok (.iload_n 3, 1) := by decide +kernel
theorem dX11_rests_35 : decode cX11_rests 35 = .ok (.bipush 10, 2) := by decide +kernel
theorem dX11_rests_37 : decode cX11_rests 37 = .ok (.idiv, 1) := by decide +kernel
theorem dX11_rests_38 : decode cX11_rests 38 = .ok (.iload_n 3, 1) := by decide +kernel
theorem dX11_rests_39 : decode cX11_rests 39 = .ok (.bipush 10, 2) := by decide +kernel
theorem dX11_rests_41 : decode cX11_rests 41 = .ok (.irem, 1) := by decide +kernel
theorem dX11_rests_42 : decode cX11_rests 42 = .ok (.invokestatic 269, 3) := by decide +kernel
theorem dX11_rests_45 : decode cX11_rests 45 = .ok (.ifCond .eq 6, 3) := by decide +kernel
theorem dX11_rests_48 : decode cX11_rests 48 = .ok (.iinc 2 1, 3) := by decide +kernel
theorem dX11_rests_51 : decode cX11_rests 51 = .ok (.iinc 3 1, 3) := by decide +kernel
theorem dX11_rests_54 : decode cX11_rests 54 = .ok (.goto (-27), 3) := by decide +kernel
theorem dX11_rests_57 : decode cX11_rests 57 = .ok (.iload_n 2, 1) := by decide +kernel
theorem dX11_rests_58 : decode cX11_rests 58 = .ok (.ireturn, 1) := by decide +kernel
theorem dX11_rest_0 : decode cX11_rest 0 = .ok (.aload_n 0, 1) := by decide +kernel
theorem dX11_rest_1 : decode cX11_rest 1 = .ok (.aload_n 0, 1) := by decide +kernel
theorem dX11_rest_2 : decode cX11_rest 2 = .ok (.invokevirtual 202, 3) := by decide +kernel
theorem dX11_rest_5 : decode cX11_rest 5 = .ok (.iload_n 1, 1) := by decide +kernel
theorem dX11_rest_6 : decode cX11_rest 6 = .ok (.iconst 0, 1) := by decide +kernel
theorem dX11_rest_7 : decode cX11_rest 7 = .ok (.bipush 99, 2) := by decide +kernel
theorem dX11_rest_9 : decode cX11_rest 9 = .ok (.invokestatic 106, 3) := by decide +kernel
theorem dX11_rest_12 : decode cX11_rest 12 = .ok (.invokestatic 140, 3) := by decide +kernel
theorem dX11_rest_15 : decode cX11_rest 15 = .ok (.invokevirtual 110, 3) := by decide +kernel
theorem dX11_rest_18 : decode cX11_rest 18 = .ok (.ifCond .eq 5, 3) := by decide +kernel
theorem dX11_rest_21 : decode cX11_rest 21 = .ok (.iconst (-1), 1) := by decide +kernel
theorem dX11_rest_22 : decode cX11_rest 22 = .ok (.ireturn, 1) := by decide +kernel
theorem dX11_rest_23 : decode cX11_rest 23 = .ok (.iconst 0, 1) := by decide +kernel
theorem dX11_rest_24 : decode cX11_rest 24 = .ok (.istore_n 2, 1) := by decide +kernel
theorem dX11_rest_25 : decode cX11_rest 25 = .ok (.iload_n 2, 1) := by decide +kernel
theorem dX11_rest_26 : decode cX11_rest 26 = .ok (.bipush 100, 2) := by decide +kernel
theorem dX11_rest_28 : decode cX11_rest 28 = .ok (.if_icmp .ge 26, 3) := by decide +kernel
theorem dX11_rest_31 : decode cX11_rest 31 = .ok (.iload_n 1, 1) := by decide +kernel
theorem dX11_rest_32 : decode cX11_rest 32 = .ok (.iload_n 2, 1) := by decide +kernel
theorem dX11_rest_33 : decode cX11_rest 33 = .ok (.bipush 10, 2) := by decide +kernel
theorem dX11_rest_35 : decode cX11_rest 35 = .ok (.idiv, 1) := by decide +kernel
theorem dX11_rest_36 : decode cX11_rest 36 = .ok (.iload_n 2, 1) := by decide +kernel
theorem dX11_rest_37 : decode cX11_rest 37 = .ok (.bipush 10, 2) := by decide +kernel
theorem dX11_rest_39 : decode cX11_rest 39 = .ok (.irem, 1) := by decide +kernel
theorem dX11_rest_40 : decode cX11_rest 40 = .ok (.invokestatic 269, 3) := by decide +kernel
theorem dX11_rest_43 : decode cX11_rest 43 = .ok (.ifCond .eq 5, 3) := by decide +kernel
theorem dX11_rest_46 : decode cX11_rest 46 = .ok (.iload_n 2, 1) := by decide +kernel
theorem dX11_rest_47 : decode cX11_rest 47 = .ok (.ireturn, 1) := by decide +kernel
theorem dX11_rest_48 : decode cX11_rest 48 = .ok (.iinc 2 1, 3) := by decide +kernel
theorem dX11_rest_51 : decode cX11_rest 51 = .ok (.goto (-26), 3) := by decide +kernel
theorem dX11_rest_54 : decode cX11_rest 54 = .ok (.bipush (-2), 2) := by decide +kernel
theorem dX11_rest_56 : decode cX11_rest 56 = .ok (.ireturn, 1) := by decide +kernel
theorem dX11_part_0 : decode cX11_part 0 = .ok (.aload_n 0, 1) := by decide +kernel
theorem dX11_part_1 : decode cX11_part 1 = .ok (.aload_n 0, 1) := by decide +kernel
theorem dX11_part_2 : decode cX11_part 2 = .ok (.iload_n 1, 1) := by decide +kernel
theorem dX11_part_3 : decode cX11_part 3 = .ok (.invokevirtual 273, 3) := by decide +kernel
theorem dX11_part_6 : decode cX11_part 6 = .ok (.iload_n 2, 1) := by decide +kernel
theorem dX11_part_7 : decode cX11_part 7 = .ok (.iconst 0, 1) := by decide +kernel
theorem dX11_part_8 : decode cX11_part 8 = .ok (.sipush 999, 3) := by decide +kernel
theorem dX11_part_11 : decode cX11_part 11 = .ok (.invokestatic 106, 3) := by decide +kernel
theorem dX11_part_14 : decode cX11_part 14 = .ok (.aload_n 0, 1) := by decide +kernel
theorem dX11_part_15 : decode cX11_part 15 = .ok (.iload_n 3, 1) := by decide +kernel
theorem dX11_part_16 : decode cX11_part 16 = .ok (.invokevirtual 176, 3) := by decide +kernel
theorem dX11_part_19 : decode cX11_part 19 = .ok (.invokestatic 140, 3) := by decide +kernel
theorem dX11_part_22 : decode cX11_part 22 = .ok (.invokestatic 140, 3) := by decide +kernel
theorem dX11_part_25 : decode cX11_part 25 = .ok (.invokevirtual 110, 3) := by decide +kernel
theorem dX11_part_28 : decode cX11_part 28 = .ok (.ifCond .eq 5, 3) := by decide +kernel
theorem dX11_part_31 : decode cX11_part 31 = .ok (.iconst (-1), 1) := by decide +kernel
theorem dX11_part_32 : decode cX11_part 32 = .ok (.ireturn, 1) := by decide +kernel
theorem dX11_part_33 : decode cX11_part 33 = .ok (.aload_n 0, 1) := by decide +kernel
theorem dX11_part_34 : decode cX11_part 34 = .ok (.getfield 67, 3) := by decide +kernel
theorem dX11_part_37 : decode cX11_part 37 = .ok (.aload_n 0, 1) := by decide +kernel
theorem dX11_part_38 : decode cX11_part 38 = .ok (.getfield 32, 3) := by decide +kernel
theorem dX11_part_41 : decode cX11_part 41 = .ok (.iload_n 2, 1) := by decide +kernel
theorem dX11_part_42 : decode cX11_part 42 = .ok (.iload_n 3, 1) := by decide +kernel
theorem dX11_part_43 : decode cX11_part 43 = .ok (.aload_n 0, 1) := by decide +kernel
theorem dX11_part_44 : decode cX11_part 44 = .ok (.getfield 32, 3) := by decide +kernel
theorem dX11_part_47 : decode cX11_part 47 = .ok (.getfield 179, 3) := by decide +kernel
theorem dX11_part_50 : decode cX11_part 50 = .ok (.imul, 1) := by decide +kernel
theorem dX11_part_51 : decode cX11_part 51 = .ok (.invokevirtual 276, 3) := by decide +kernel
theorem dX11_part_54 : decode cX11_part 54 = .ok (.aload_n 0, 1) := by decide +kernel
theorem dX11_part_55 : decode cX11_part 55 = .ok (.getfield 67, 3) := by decide +kernel
theorem dX11_part_58 : decode cX11_part 58 = .ok (.getfield 280, 3) := by decide +kernel
theorem dX11_part_61 : decode cX11_part 61 = .ok (.iload_n 1, 1) := by decide +kernel
theorem dX11_part_62 : decode cX11_part 62 = .ok (.iaload, 1) := by decide +kernel
theorem dX11_part_63 : decode cX11_part 63 = .ok (.ireturn, 1) := by decide +kernel
theorem dX11_service_0 : decode cX11_service 0 = .ok (.aload_n 0, 1) := by decide +kernel
theorem dX11_service_1 : decode cX11_service 1 = .ok (.aload_n 0, 1) := by decide +kernel
theorem dX11_service_2 : decode cX11_service 2 = .ok (.iload_n 1, 1) := by decide +kernel
theorem dX11_service_3 : decode cX11_service 3 = .ok (.invokevirtual 273, 3) := by decide +kernel
theorem dX11_service_6 : decode cX11_service 6 = .ok (.aload_n 0, 1) := by decide +kernel
theorem dX11_service_7 : decode cX11_service 7 = .ok (.iload_n 2, 1) := by decide +kernel
theorem dX11_service_8 : decode cX11_service 8 = .ok (.invokevirtual 176, 3) := by decide +kernel
theorem dX11_service_11 : decode cX11_service 11 = .ok (.invokestatic 140, 3) := by decide +kernel
theorem dX11_service_14 : decode cX11_service 14 = .ok (.invokevirtual 110, 3) := by decide +kernel
theorem dX11_service_17 : decode cX11_service 17 = .ok (.ifCond .eq 5, 3) := by decide +kernel
theorem dX11_service_20 : decode cX11_service 20 = .ok (.iconst (-1), 1) := by decide +kernel
theorem dX11_service_21 : decode cX11_service 21 = .ok (.ireturn, 1) := by decide +kernel
theorem dX11_service_22 : decode cX11_service 22 = .ok (.aload_n 0, 1) := by decide +kernel
theorem dX11_service_23 : decode cX11_service 23 = .ok (.getfield 32, 3) := by decide +kernel
theorem dX11_service_26 : decode cX11_service 26 = .ok (.iload_n 1, 1) := by decide +kernel
theorem dX11_service_27 : decode cX11_service 27 = .ok (.iload_n 2, 1) := by decide +kernel
theorem dX11_service_28 : decode cX11_service 28 = .ok (.aload_n 0, 1) := by decide +kernel
theorem dX11_service_29 : decode cX11_service 29 = .ok (.getfield 32, 3) := by decide +kernel
theorem dX11_service_32 : decode cX11_service 32 = .ok (.getfield 179, 3) := by decide +kernel
theorem dX11_service_35 : decode cX11_service 35 = .ok (.imul, 1) := by decide +kernel
theorem dX11_service_36 : decode cX11_service 36 = .ok (.invokevirtual 283, 3) := by decide +kernel
theorem dX11_service_39 : decode cX11_service 39 = .ok (.ireturn, 1) := by decide +kernel
theorem dX11_bestHand_0 : decode cX11_bestHand 0 = .ok (.aload_n 0, 1) := by decide +kernel
theorem dX11_bestHand_1 : decode cX11_bestHand 1 = .ok (.aload_n 0, 1) := by decide +kernel
theorem dX11_bestHand_2 : decode cX11_bestHand 2 = .ok (.invokevirtual 202, 3) := by decide +kernel
theorem dX11_bestHand_5 : decode cX11_bestHand 5 = .ok (.iload_n 1, 1) := by decide +kernel
theorem dX11_bestHand_6 : decode cX11_bestHand 6 = .ok (.iconst 0, 1) := by decide +kernel
theorem dX11_bestHand_7 : decode cX11_bestHand 7 = .ok (.sipush 999, 3) := by decide +kernel
theorem dX11_bestHand_10 : decode cX11_bestHand 10 = .ok (.invokestatic 106, 3) := by decide +kernel
theorem dX11_bestHand_13 : decode cX11_bestHand 13 = .ok (.aload_n 0, 1) := by decide +kernel
theorem dX11_bestHand_14 : decode cX11_bestHand 14 = .ok (.iload_n 2, 1) := by decide +kernel
theorem dX11_bestHand_15 : decode cX11_bestHand 15 = .ok (.invokevirtual 176, 3) := by decide +kernel
theorem dX11_bestHand_18 : decode cX11_bestHand 18 = .ok (.invokestatic 140, 3) := by decide +kernel
theorem dX11_bestHand_21 : decode cX11_bestHand 21 = .ok (.invokestatic 140, 3) := by decide +kernel
theorem dX11_bestHand_24 : decode cX11_bestHand 24 = .ok (.invokevirtual 110, 3) := by decide +kernel
theorem dX11_bestHand_27 : decode cX11_bestHand 27 = .ok (.ifCond .eq 5, 3) := by decide +kernel
theorem dX11_bestHand_30 : decode cX11_bestHand 30 = .ok (.iconst (-1), 1) := by decide +kernel
theorem dX11_bestHand_31 : decode cX11_bestHand 31 = .ok (.ireturn, 1) := by decide +kernel
theorem dX11_bestHand_32 : decode cX11_bestHand 32 = .ok (.aload_n 0, 1) := by decide +kernel
theorem dX11_bestHand_33 : decode cX11_bestHand 33 = .ok (.getfield 67, 3) := by decide +kernel
theorem dX11_bestHand_36 : decode cX11_bestHand 36 = .ok (.aload_n 0, 1) := by decide +kernel
theorem dX11_bestHand_37 : decode cX11_bestHand 37 = .ok (.getfield 32, 3) := by decide +kernel
theorem dX11_bestHand_40 : decode cX11_bestHand 40 = .ok (.iload_n 1, 1) := by decide +kernel
theorem dX11_bestHand_41 : decode cX11_bestHand 41 = .ok (.iload_n 2, 1) := by decide +kernel
theorem dX11_bestHand_42 : decode cX11_bestHand 42 = .ok (.aload_n 0, 1) := by decide +kernel
theorem dX11_bestHand_43 : decode cX11_bestHand 43 = .ok (.getfield 32, 3) := by decide +kernel
theorem dX11_bestHand_46 : decode cX11_bestHand 46 = .ok (.getfield 179, 3) := by decide +kernel
theorem dX11_bestHand_49 : decode cX11_bestHand 49 = .ok (.imul, 1) := by decide +kernel
theorem dX11_bestHand_50 : decode cX11_bestHand 50 = .ok (.invokevirtual 276, 3) := by decide +kernel
theorem dX11_bestHand_53 : decode cX11_bestHand 53 = .ok (.bipush (-2), 2) := by decide +kernel
theorem dX11_bestHand_55 : decode cX11_bestHand 55 = .ok (.istore_n 3, 1) := by decide +kernel
theorem dX11_bestHand_56 : decode cX11_bestHand 56 = .ok (.iconst 0, 1) := by decide +kernel
theorem dX11_bestHand_57 : decode cX11_bestHand 57 = .ok (.istore 4, 2) := by decide +kernel
theorem dX11_bestHand_59 : decode cX11_bestHand 59 = .ok (.iconst 0, 1) := by decide +kernel
theorem dX11_bestHand_60 : decode cX11_bestHand 60 = .ok (.istore 5, 2) := by decide +kernel
theorem dX11_bestHand_62 : decode cX11_bestHand 62 = .ok (.iload 5, 2) := by decide +kernel
theorem dX11_bestHand_64 : decode cX11_bestHand 64 = .ok (.aload_n 0, 1) := by decide +kernel
theorem dX11_bestHand_65 : decode cX11_bestHand 65 = .ok (.getfield 32, 3) := by decide +kernel
theorem dX11_bestHand_68 : decode cX11_bestHand 68 = .ok (.getfield 129, 3) := by decide +kernel
theorem dX11_bestHand_71 : decode cX11_bestHand 71 = .ok (.iconst 5, 1) := by decide +kernel
theorem dX11_bestHand_72 : decode cX11_bestHand 72 = .ok (.iaload, 1) := by decide +kernel
theorem dX11_bestHand_73 : decode cX11_bestHand 73 = .ok (.if_icmp .ge 39, 3) := by decide +kernel
theorem dX11_bestHand_76 : decode cX11_bestHand 76 = .ok (.aload_n 0, 1) := by decide +kernel
theorem dX11_bestHand_77 : decode cX11_bestHand 77 = .ok (.getfield 67, 3) := by decide +kernel
theorem dX11_bestHand_80 : decode cX11_bestHand 80 = .ok (.getfield 280, 3) := by decide +kernel
theorem dX11_bestHand_83 : decode cX11_bestHand 83 = .ok (.iload 5, 2) := by decide +kernel
theorem dX11_bestHand_85 : decode cX11_bestHand 85 = .ok (.iaload, 1) := by decide +kernel
theorem dX11_bestHand_86 : decode cX11_bestHand 86 = .ok (.iload 4, 2) := by decide +kernel
theorem dX11_bestHand_88 : decode cX11_bestHand 88 = .ok (.if_icmp .le 18, 3) := by decide +kernel
theorem dX11_bestHand_91 : decode cX11_bestHand 91 = .ok (.aload_n 0, 1) := by decide +kernel
theorem dX11_bestHand_92 : decode cX11_bestHand 92 = .ok (.getfield 67, 3) := by decide +kernel
theorem dX11_bestHand_95 : decode cX11_bestHand 95 = .ok (.getfield 280, 3) := by decide +kernel
theorem dX11_bestHand_98 : decode cX11_bestHand 98 = .ok (.iload 5, 2) := by decide +kernel
theorem dX11_bestHand_100 : decode cX11_bestHand 100 = .ok (.iaload, 1) := by decide +kernel
theorem dX11_bestHand_101 : decode cX11_bestHand 101 = .ok (.istore 4, 2) := by decide +kernel
theorem dX11_bestHand_103 : decode cX11_bestHand 103 = .ok (.iload 5, 2) := by decide +kernel
theorem dX11_bestHand_105 : decode cX11_bestHand 105 = .ok (.istore_n 3, 1) := by decide +kernel
theorem dX11_bestHand_106 : decode cX11_bestHand 106 = .ok (.iinc 5 1, 3) := by decide +kernel
theorem dX11_bestHand_109 : decode cX11_bestHand 109 = .ok (.goto (-47), 3) := by decide +kernel
theorem dX11_bestHand_112 : decode cX11_bestHand 112 = .ok (.iload_n 3, 1) := by decide +kernel
theorem dX11_bestHand_113 : decode cX11_bestHand 113 = .ok (.ireturn, 1) := by decide +kernel
theorem dX11_rows_0 : decode cX11_rows 0 = .ok (.aload_n 0, 1) := by decide +kernel
theorem dX11_rows_1 : decode cX11_rows 1 = .ok (.aload_n 0, 1) := by decide +kernel
theorem dX11_rows_2 : decode cX11_rows 2 = .ok (.invokevirtual 286, 3) := by decide +kernel
theorem dX11_rows_5 : decode cX11_rows 5 = .ok (.invokevirtual 110, 3) := by decide +kernel
theorem dX11_rows_8 : decode cX11_rows 8 = .ok (.ifCond .eq 5, 3) := by decide +kernel
theorem dX11_rows_11 : decode cX11_rows 11 = .ok (.iconst (-1), 1) := by decide +kernel
theorem dX11_rows_12 : decode cX11_rows 12 = .ok (.ireturn, 1) := by decide +kernel
theorem dX11_rows_13 : decode cX11_rows 13 = .ok (.aload_n 0, 1) := by decide +kernel
theorem dX11_rows_14 : decode cX11_rows 14 = .ok (.getfield 74, 3) := by decide +kernel
theorem dX11_rows_17 : decode cX11_rows 17 = .ok (.aload_n 0, 1) := by decide +kernel
theorem dX11_rows_18 : decode cX11_rows 18 = .ok (.getfield 32, 3) := by decide +kernel
theorem dX11_rows_21 : decode cX11_rows 21 = .ok (.invokevirtual 289, 3) := by decide +kernel
theorem dX11_rows_24 : decode cX11_rows 24 = .ok (.aload_n 0, 1) := by decide +kernel
theorem dX11_rows_25 : decode cX11_rows 25 = .ok (.getfield 74, 3) := by decide +kernel
theorem dX11_rows_28 : decode cX11_rows 28 = .ok (.getfield 292, 3) := by decide +kernel
theorem dX11_rows_31 : decode cX11_rows 31 = .ok (.ireturn, 1) := by decide +kernel
theorem dX11_could_0 : decode cX11_could 0 = .ok (.aload_n 0, 1) := by decide +kernel
theorem dX11_could_1 : decode cX11_could 1 = .ok (.iload_n 1, 1) := by decide +kernel
theorem dX11_could_2 : decode cX11_could 2 = .ok (.aload_n 0, 1) := by decide +kernel
theorem dX11_could_3 : decode cX11_could 3 = .ok (.getfield 32, 3) := by decide +kernel
theorem dX11_could_6 : decode cX11_could 6 = .ok (.getfield 129, 3) := by decide +kernel
theorem dX11_could_9 : decode cX11_could 9 = .ok (.bipush 6, 2) := by decide +kernel
theorem dX11_could_11 : decode cX11_could 11 = .ok (.iaload, 1) := by decide +kernel
theorem dX11_could_12 : decode cX11_could 12 = .ok (.invokestatic 136, 3) := by decide +kernel
theorem dX11_could_15 : decode cX11_could 15 = .ok (.invokevirtual 110, 3) := by decide +kernel
theorem dX11_could_18 : decode cX11_could 18 = .ok (.ifCond .eq 5, 3) := by decide +kernel
theorem dX11_could_21 : decode cX11_could 21 = .ok (.iconst (-1), 1) := by decide +kernel
theorem dX11_could_22 : decode cX11_could 22 = .ok (.ireturn, 1) := by decide +kernel
theorem dX11_could_23 : decode cX11_could 23 = .ok (.aload_n 0, 1) := by decide +kernel
theorem dX11_could_24 : decode cX11_could 24 = .ok (.getfield 74, 3) := by decide +kernel
theorem dX11_could_27 : decode cX11_could 27 = .ok (.aload_n 0, 1) := by decide +kernel
theorem dX11_could_28 : decode cX11_could 28 = .ok (.getfield 32, 3) := by decide +kernel
theorem dX11_could_31 : decode cX11_could 31 = .ok (.invokevirtual 289, 3) := by decide +kernel
theorem dX11_could_34 : decode cX11_could 34 = .ok (.aload_n 0, 1) := by decide +kernel
theorem dX11_could_35 : decode cX11_could 35 = .ok (.getfield 74, 3) := by decide +kernel
theorem dX11_could_38 : decode cX11_could 38 = .ok (.iload_n 1, 1) := by decide +kernel
theorem dX11_could_39 : decode cX11_could 39 = .ok (.invokevirtual 293, 3) := by decide +kernel
theorem dX11_could_42 : decode cX11_could 42 = .ok (.ireturn, 1) := by decide +kernel
theorem dX11_surely_0 : decode cX11_surely 0 = .ok (.aload_n 0, 1) := by decide +kernel
theorem dX11_surely_1 : decode cX11_surely 1 = .ok (.iload_n 1, 1) := by decide +kernel
theorem dX11_surely_2 : decode cX11_surely 2 = .ok (.aload_n 0, 1) := by decide +kernel
theorem dX11_surely_3 : decode cX11_surely 3 = .ok (.getfield 32, 3) := by decide +kernel
theorem dX11_surely_6 : decode cX11_surely 6 = .ok (.getfield 129, 3) := by decide +kernel
theorem dX11_surely_9 : decode cX11_surely 9 = .ok (.bipush 6, 2) := by decide +kernel
theorem dX11_surely_11 : decode cX11_surely 11 = .ok (.iaload, 1) := by decide +kernel
theorem dX11_surely_12 : decode cX11_surely 12 = .ok (.invokestatic 136, 3) := by decide +kernel
theorem dX11_surely_15 : decode cX11_surely 15 = .ok (.invokevirtual 110, 3) := by decide +kernel
theorem dX11_surely_18 : decode cX11_surely 18 = .ok (.ifCond .eq 5, 3) := by decide +kernel
theorem dX11_surely_21 : decode cX11_surely 21 = .ok (.iconst (-1), 1) := by decide +kernel
theorem dX11_surely_22 : decode cX11_surely 22 = .ok (.ireturn, 1) := by decide +kernel
theorem dX11_surely_23 : decode cX11_surely 23 = .ok (.aload_n 0, 1) := by decide +kernel
theorem dX11_surely_24 : decode cX11_surely 24 = .ok (.getfield 74, 3) := by decide +kernel
theorem dX11_surely_27 : decode cX11_surely 27 = .ok (.aload_n 0, 1) := by decide +kernel
theorem dX11_surely_28 : decode cX11_surely 28 = .ok (.getfield 32, 3) := by decide +kernel
theorem dX11_surely_31 : decode cX11_surely 31 = .ok (.invokevirtual 289, 3) := by decide +kernel
theorem dX11_surely_34 : decode cX11_surely 34 = .ok (.aload_n 0, 1) := by decide +kernel
theorem dX11_surely_35 : decode cX11_surely 35 = .ok (.getfield 74, 3) := by decide +kernel
theorem dX11_surely_38 : decode cX11_surely 38 = .ok (.iload_n 1, 1) := by decide +kernel
theorem dX11_surely_39 : decode cX11_surely 39 = .ok (.invokevirtual 296, 3) := by decide +kernel
theorem dX11_surely_42 : decode cX11_surely 42 = .ok (.ireturn, 1) := by decide +kernel
theorem dX11_firstOf_0 : decode cX11_firstOf 0 = .ok (.aload_n 0, 1) := by decide +kernel
theorem dX11_firstOf_1 : decode cX11_firstOf 1 = .ok (.iload_n 1, 1) := by decide +kernel
theorem dX11_firstOf_2 : decode cX11_firstOf 2 = .ok (.aload_n 0, 1) := by decide +kernel
theorem dX11_firstOf_3 : decode cX11_firstOf 3 = .ok (.getfield 32, 3) := by decide +kernel
theorem dX11_firstOf_6 : decode cX11_firstOf 6 = .ok (.getfield 129, 3) := by decide +kernel
theorem dX11_firstOf_9 : decode cX11_firstOf 9 = .ok (.bipush 6, 2) := by decide +kernel
theorem dX11_firstOf_11 : decode cX11_firstOf 11 = .ok (.iaload, 1) := by decide +kernel
theorem dX11_firstOf_12 : decode cX11_firstOf 12 = .ok (.invokestatic 136, 3) := by decide +kernel
theorem dX11_firstOf_15 : decode cX11_firstOf 15 = .ok (.invokevirtual 110, 3) := by decide +kernel
theorem dX11_firstOf_18 : decode cX11_firstOf 18 = .ok (.ifCond .eq 5, 3) := by decide +kernel
theorem dX11_firstOf_21 : decode cX11_firstOf 21 = .ok (.iconst (-1), 1) := by decide +kernel
theorem dX11_firstOf_22 : decode cX11_firstOf 22 = .ok (.ireturn, 1) := by decide +kernel
theorem dX11_firstOf_23 : decode cX11_firstOf 23 = .ok (.aload_n 0, 1) := by decide +kernel
theorem dX11_firstOf_24 : decode cX11_firstOf 24 = .ok (.getfield 74, 3) := by decide +kernel
theorem dX11_firstOf_27 : decode cX11_firstOf 27 = .ok (.aload_n 0, 1) := by decide +kernel
theorem dX11_firstOf_28 : decode cX11_firstOf 28 = .ok (.getfield 32, 3) := by decide +kernel
theorem dX11_firstOf_31 : decode cX11_firstOf 31 = .ok (.invokevirtual 289, 3) := by decide +kernel
theorem dX11_firstOf_34 : decode cX11_firstOf 34 = .ok (.aload_n 0, 1) := by decide +kernel
theorem dX11_firstOf_35 : decode cX11_firstOf 35 = .ok (.getfield 74, 3) := by decide +kernel
theorem dX11_firstOf_38 : decode cX11_firstOf 38 = .ok (.getfield 292, 3) := by decide +kernel
theorem dX11_firstOf_41 : decode cX11_firstOf 41 = .ok (.ifCond .ne 8, 3) := by decide +kernel
theorem dX11_firstOf_44 : decode cX11_firstOf 44 = .ok (.bipush (-2), 2) := by decide +kernel
theorem dX11_firstOf_46 : decode cX11_firstOf 46 = .ok (.goto 12, 3) := by decide +kernel
theorem dX11_firstOf_49 : decode cX11_firstOf 49 = .ok (.aload_n 0, 1) := by decide +kernel
theorem dX11_firstOf_50 : decode cX11_firstOf 50 = .ok (.getfield 74, 3) := by decide +kernel
theorem dX11_firstOf_53 : decode cX11_firstOf 53 = .ok (.getfield 299, 3) := by decide +kernel
theorem dX11_firstOf_56 : decode cX11_firstOf 56 = .ok (.iload_n 1, 1) := by decide +kernel
theorem dX11_firstOf_57 : decode cX11_firstOf 57 = .ok (.iaload, 1) := by decide +kernel
theorem dX11_firstOf_58 : decode cX11_firstOf 58 = .ok (.ireturn, 1) := by decide +kernel
theorem dX11_ask_0 : decode cX11_ask 0 = .ok (.aload_n 0, 1) := by decide +kernel
theorem dX11_ask_1 : decode cX11_ask 1 = .ok (.aload_n 0, 1) := by decide +kernel
theorem dX11_ask_2 : decode cX11_ask 2 = .ok (.invokevirtual 286, 3) := by decide +kernel
theorem dX11_ask_5 : decode cX11_ask 5 = .ok (.invokevirtual 110, 3) := by decide +kernel
theorem dX11_ask_8 : decode cX11_ask 8 = .ok (.ifCond .eq 5, 3) := by decide +kernel
theorem dX11_ask_11 : decode cX11_ask 11 = .ok (.iconst (-1), 1) := by decide +kernel
theorem dX11_ask_12 : decode cX11_ask 12 = .ok (.ireturn, 1) := by decide +kernel
theorem dX11_ask_13 : decode cX11_ask 13 = .ok (.aload_n 0, 1) := by decide +kernel
theorem dX11_ask_14 : decode cX11_ask 14 = .ok (.getfield 74, 3) := by decide +kernel
theorem dX11_ask_17 : decode cX11_ask 17 = .ok (.aload_n 0, 1) := by decide +kernel
theorem dX11_ask_18 : decode cX11_ask 18 = .ok (.getfield 32, 3) := by decide +kernel
theorem dX11_ask_21 : decode cX11_ask 21 = .ok (.invokevirtual 289, 3) := by decide +kernel
theorem dX11_ask_24 : decode cX11_ask 24 = .ok (.aload_n 0, 1) := by decide +kernel
theorem dX11_ask_25 : decode cX11_ask 25 = .ok (.getfield 74, 3) := by decide +kernel
theorem dX11_ask_28 : decode cX11_ask 28 = .ok (.getfield 292, 3) := by decide +kernel
theorem dX11_ask_31 : decode cX11_ask 31 = .ok (.ifCond .ne 8, 3) := by decide +kernel
theorem dX11_ask_34 : decode cX11_ask 34 = .ok (.bipush (-2), 2) := by decide +kernel
theorem dX11_ask_36 : decode cX11_ask 36 = .ok (.goto 10, 3) := by decide +kernel
theorem dX11_ask_39 : decode cX11_ask 39 = .ok (.aload_n 0, 1) := by decide +kernel
theorem dX11_ask_40 : decode cX11_ask 40 = .ok (.getfield 74, 3) := by decide +kernel
theorem dX11_ask_43 : decode cX11_ask 43 = .ok (.invokevirtual 302, 3) := by decide +kernel
theorem dX11_ask_46 : decode cX11_ask 46 = .ok (.ireturn, 1) := by decide +kernel
theorem dX11_askLeaves_0 : decode cX11_askLeaves 0 = .ok (.aload_n 0, 1) := by decide +kernel
theorem dX11_askLeaves_1 : decode cX11_askLeaves 1 = .ok (.aload_n 0, 1) := by decide +kernel
theorem dX11_askLeaves_2 : decode cX11_askLeaves 2 = .ok (.invokevirtual 286, 3) := by decide +kernel
theorem dX11_askLeaves_5 : decode cX11_askLeaves 5 = .ok (.invokevirtual 110, 3) := by decide +kernel
theorem dX11_askLeaves_8 : decode cX11_askLeaves 8 = .ok (.ifCond .eq 5, 3) := by decide +kernel
theorem dX11_askLeaves_11 : decode cX11_askLeaves 11 = .ok (.iconst (-1), 1) := by decide +kernel
theorem dX11_askLeaves_12 : decode cX11_askLeaves 12 = .ok (.ireturn, 1) := by decide +kernel
theorem dX11_askLeaves_13 : decode cX11_askLeaves 13 = .ok (.aload_n 0, 1) := by decide +kernel
theorem dX11_askLeaves_14 : decode cX11_askLeaves 14 = .ok (.getfield 74, 3) := by decide +kernel
theorem dX11_askLeaves_17 : decode cX11_askLeaves 17 = .ok (.aload_n 0, 1) := by decide +kernel
theorem dX11_askLeaves_18 : decode cX11_askLeaves 18 = .ok (.getfield 32, 3) := by decide +kernel
theorem dX11_askLeaves_21 : decode cX11_askLeaves 21 = .ok (.invokevirtual 289, 3) := by decide +kernel
theorem dX11_askLeaves_24 : decode cX11_askLeaves 24 = .ok (.aload_n 0, 1) := by decide +kernel
theorem dX11_askLeaves_25 : decode cX11_askLeaves 25 = .ok (.getfield 74, 3) := by decide +kernel
theorem dX11_askLeaves_28 : decode cX11_askLeaves 28 = .ok (.getfield 292, 3) := by decide +kernel
theorem dX11_askLeaves_31 : decode cX11_askLeaves 31 = .ok (.ifCond .ne 8, 3) := by decide +kernel
theorem dX11_askLeaves_34 : decode cX11_askLeaves 34 = .ok (.bipush (-2), 2) := by decide +kernel
theorem dX11_askLeaves_36 : decode cX11_askLeaves 36 = .ok (.goto 17, 3) := by decide +kernel
theorem dX11_askLeaves_39 : decode cX11_askLeaves 39 = .ok (.aload_n 0, 1) := by decide +kernel
theorem dX11_askLeaves_40 : decode cX11_askLeaves 40 = .ok (.getfield 74, 3) := by decide +kernel
theorem dX11_askLeaves_43 : decode cX11_askLeaves 43 = .ok (.aload_n 0, 1) := by decide +kernel
theorem dX11_askLeaves_44 : decode cX11_askLeaves 44 = .ok (.getfield 74, 3) := by decide +kernel
theorem dX11_askLeaves_47 : decode cX11_askLeaves 47 = .ok (.invokevirtual 302, 3) := by decide +kernel
theorem dX11_askLeaves_50 : decode cX11_askLeaves 50 = .ok (.invokevirtual 305, 3) := by decide +kernel
theorem dX11_askLeaves_53 : decode cX11_askLeaves 53 = .ok (.ireturn, 1) := by decide +kernel
theorem dX11_judge_0 : decode cX11_judge 0 = .ok (.aload_n 0, 1) := by decide +kernel
theorem dX11_judge_1 : decode cX11_judge 1 = .ok (.aload_n 0, 1) := by decide +kernel
theorem dX11_judge_2 : decode cX11_judge 2 = .ok (.invokevirtual 202, 3) := by decide +kernel
theorem dX11_judge_5 : decode cX11_judge 5 = .ok (.invokevirtual 110, 3) := by decide +kernel
theorem dX11_judge_8 : decode cX11_judge 8 = .ok (.ifCond .eq 5, 3) := by decide +kernel
theorem dX11_judge_11 : decode cX11_judge 11 = .ok (.iconst (-1), 1) := by decide +kernel
theorem dX11_judge_12 : decode cX11_judge 12 = .ok (.ireturn, 1) := by decide +kernel
theorem dX11_judge_13 : decode cX11_judge 13 = .ok (.iconst 0, 1) := by decide +kernel
theorem dX11_judge_14 : decode cX11_judge 14 = .ok (.istore_n 1, 1) := by decide +kernel
theorem dX11_judge_15 : decode cX11_judge 15 = .ok (.iload_n 1, 1) := by decide +kernel
theorem dX11_judge_16 : decode cX11_judge 16 = .ok (.aload_n 0, 1) := by decide +kernel
theorem dX11_judge_17 : decode cX11_judge 17 = .ok (.getfield 32, 3) := by decide +kernel
theorem dX11_judge_20 : decode cX11_judge 20 = .ok (.getfield 129, 3) := by decide +kernel
theorem dX11_judge_23 : decode cX11_judge 23 = .ok (.bipush 6, 2) := by decide +kernel
theorem dX11_judge_25 : decode cX11_judge 25 = .ok (.iaload, 1) := by decide +kernel
theorem dX11_judge_26 : decode cX11_judge 26 = .ok (.if_icmp .ge 22, 3) := by decide +kernel
theorem dX11_judge_29 : decode cX11_judge 29 = .ok (.aload_n 0, 1) := by decide +kernel
theorem dX11_judge_30 : decode cX11_judge 30 = .ok (.getfield 32, 3) := by decide +kernel
theorem dX11_judge_33 : decode cX11_judge 33 = .ok (.iload_n 1, 1) := by decide +kernel
theorem dX11_judge_34 : decode cX11_judge 34 = .ok (.invokevirtual 308, 3) := by decide +kernel
theorem dX11_judge_37 : decode cX11_judge 37 = .ok (.ifCond .ne 5, 3) := by decide +kernel
theorem dX11_judge_40 : decode cX11_judge 40 = .ok (.iload_n 1, 1) := by decide +kernel
theorem dX11_judge_41 : decode cX11_judge 41 = .ok (.ireturn, 1) := by decide +kernel
theorem dX11_judge_42 : decode cX11_judge 42 = .ok (.iinc 1 1, 3) := by decide +kernel
theorem dX11_judge_45 : decode cX11_judge 45 = .ok (.goto (-30), 3) := by decide +kernel
theorem dX11_judge_48 : decode cX11_judge 48 = .ok (.bipush (-2), 2) := by decide +kernel
theorem dX11_judge_50 : decode cX11_judge 50 = .ok (.ireturn, 1) := by decide +kernel
theorem dX11_life_0 : decode cX11_life 0 = .ok (.aload_n 0, 1) := by decide +kernel
theorem dX11_life_1 : decode cX11_life 1 = .ok (.aload_n 0, 1) := by decide +kernel
theorem dX11_life_2 : decode cX11_life 2 = .ok (.iload_n 1, 1) := by decide +kernel
theorem dX11_life_3 : decode cX11_life 3 = .ok (.iload_n 2, 1) := by decide +kernel
theorem dX11_life_4 : decode cX11_life 4 = .ok (.iconst 0, 1) := by decide +kernel
theorem dX11_life_5 : decode cX11_life 5 = .ok (.bipush 20, 2) := by decide +kernel
theorem dX11_life_7 : decode cX11_life 7 = .ok (.invokevirtual 311, 3) := by decide +kernel
theorem dX11_life_10 : decode cX11_life 10 = .ok (.invokevirtual 110, 3) := by decide +kernel
theorem dX11_life_13 : decode cX11_life 13 = .ok (.ifCond .eq 5, 3) := by decide +kernel
theorem dX11_life_16 : decode cX11_life 16 = .ok (.iconst (-1), 1) := by decide +kernel
theorem dX11_life_17 : decode cX11_life 17 = .ok (.ireturn, 1) := by decide +kernel
theorem dX11_life_18 : decode cX11_life 18 = .ok (.aload_n 0, 1) := by decide +kernel
theorem dX11_life_19 : decode cX11_life 19 = .ok (.getfield 81, 3) := by decide +kernel
theorem dX11_life_22 : decode cX11_life 22 = .ok (.aload_n 0, 1) := by decide +kernel
theorem dX11_life_23 : decode cX11_life 23 = .ok (.getfield 32, 3) := by decide +kernel
theorem dX11_life_26 : decode cX11_life 26 = .ok (.aload_n 0, 1) := by decide +kernel
theorem dX11_life_27 : decode cX11_life 27 = .ok (.getfield 39, 3) := by decide +kernel
theorem dX11_life_30 : decode cX11_life 30 = .ok (.iload_n 1, 1) := by decide +kernel
theorem dX11_life_31 : decode cX11_life 31 = .ok (.iload_n 2, 1) := by decide +kernel
theorem dX11_life_32 : decode cX11_life 32 = .ok (.invokevirtual 315, 3) := by decide +kernel
theorem dX11_life_35 : decode cX11_life 35 = .ok (.aload_n 0, 1) := by decide +kernel
theorem dX11_life_36 : decode cX11_life 36 = .ok (.getfield 81, 3) := by decide +kernel
theorem dX11_life_39 : decode cX11_life 39 = .ok (.getfield 319, 3) := by decide +kernel
theorem dX11_life_42 : decode cX11_life 42 = .ok (.ireturn, 1) := by decide +kernel
theorem dX11_lifeBy_0 : decode cX11_lifeBy 0 = .ok (.aload_n 0, 1) := by decide +kernel
theorem dX11_lifeBy_1 : decode cX11_lifeBy 1 = .ok (.aload_n 0, 1) := by decide +kernel
theorem dX11_lifeBy_2 : decode cX11_lifeBy 2 = .ok (.iload_n 1, 1) := by decide +kernel
theorem dX11_lifeBy_3 : decode cX11_lifeBy 3 = .ok (.iload_n 2, 1) := by decide +kernel
theorem dX11_lifeBy_4 : decode cX11_lifeBy 4 = .ok (.iconst 0, 1) := by decide +kernel
theorem dX11_lifeBy_5 : decode cX11_lifeBy 5 = .ok (.bipush 20, 2) := by decide +kernel
theorem dX11_lifeBy_7 : decode cX11_lifeBy 7 = .ok (.invokevirtual 311, 3) := by decide +kernel
theorem dX11_lifeBy_10 : decode cX11_lifeBy 10 = .ok (.invokevirtual 110, 3) := by decide +kernel
theorem dX11_lifeBy_13 : decode cX11_lifeBy 13 = .ok (.ifCond .eq 5, 3) := by decide +kernel
theorem dX11_lifeBy_16 : decode cX11_lifeBy 16 = .ok (.iconst (-1), 1) := by decide +kernel
theorem dX11_lifeBy_17 : decode cX11_lifeBy 17 = .ok (.ireturn, 1) := by decide +kernel
theorem dX11_lifeBy_18 : decode cX11_lifeBy 18 = .ok (.aload_n 0, 1) := by decide +kernel
theorem dX11_lifeBy_19 : decode cX11_lifeBy 19 = .ok (.getfield 81, 3) := by decide +kernel
theorem dX11_lifeBy_22 : decode cX11_lifeBy 22 = .ok (.aload_n 0, 1) := by decide +kernel
theorem dX11_lifeBy_23 : decode cX11_lifeBy 23 = .ok (.getfield 32, 3) := by decide +kernel
theorem dX11_lifeBy_26 : decode cX11_lifeBy 26 = .ok (.aload_n 0, 1) := by decide +kernel
theorem dX11_lifeBy_27 : decode cX11_lifeBy 27 = .ok (.getfield 39, 3) := by decide +kernel
theorem dX11_lifeBy_30 : decode cX11_lifeBy 30 = .ok (.iload_n 1, 1) := by decide +kernel
theorem dX11_lifeBy_31 : decode cX11_lifeBy 31 = .ok (.iload_n 2, 1) := by decide +kernel
theorem dX11_lifeBy_32 : decode cX11_lifeBy 32 = .ok (.invokevirtual 315, 3) := by decide +kernel
theorem dX11_lifeBy_35 : decode cX11_lifeBy 35 = .ok (.aload_n 0, 1) := by decide +kernel
theorem dX11_lifeBy_36 : decode cX11_lifeBy 36 = .ok (.getfield 81, 3) := by decide +kernel
theorem dX11_lifeBy_39 : decode cX11_lifeBy 39 = .ok (.getfield 322, 3) := by decide +kernel
theorem dX11_lifeBy_42 : decode cX11_lifeBy 42 = .ok (.getfield 325, 3) := by decide +kernel
theorem dX11_lifeBy_45 : decode cX11_lifeBy 45 = .ok (.ireturn, 1) := by decide +kernel
theorem dX11_lives_0 : decode cX11_lives 0 = .ok (.aload_n 0, 1) := by decide +kernel
theorem dX11_lives_1 : decode cX11_lives 1 = .ok (.aload_n 0, 1) := by decide +kernel
theorem dX11_lives_2 : decode cX11_lives 2 = .ok (.iload_n 1, 1) := by decide +kernel
theorem dX11_lives_3 : decode cX11_lives 3 = .ok (.iload_n 2, 1) := by decide +kernel
theorem dX11_lives_4 : decode cX11_lives 4 = .ok (.iconst 1, 1) := by decide +kernel
theorem dX11_lives_5 : decode cX11_lives 5 = .ok (.bipush 30, 2) := by decide +kernel
theorem dX11_lives_7 : decode cX11_lives 7 = .ok (.invokevirtual 311, 3) := by decide +kernel
theorem dX11_lives_10 : decode cX11_lives 10 = .ok (.invokevirtual 110, 3) := by decide +kernel
theorem dX11_lives_13 : decode cX11_lives 13 = .ok (.ifCond .eq 5, 3) := by decide +kernel
theorem dX11_lives_16 : decode cX11_lives 16 = .ok (.iconst (-1), 1) := by decide +kernel
theorem dX11_lives_17 : decode cX11_lives 17 = .ok (.ireturn, 1) := by decide +kernel
theorem dX11_lives_18 : decode cX11_lives 18 = .ok (.iconst 0, 1) := by decide +kernel
theorem dX11_lives_19 : decode cX11_lives 19 = .ok (.istore_n 3, 1) := by decide +kernel
theorem dX11_lives_20 : decode cX11_lives 20 = .ok (.iload_n 1, 1) := by decide +kernel
theorem dX11_lives_21 : decode cX11_lives 21 = .ok (.istore 4, 2) := by decide +kernel
theorem dX11_lives_23 : decode cX11_lives 23 = .ok (.iconst 0, 1) := by decide +kernel
theorem dX11_lives_24 : decode cX11_lives 24 = .ok (.istore 5, 2) := by decide +kernel
theorem dX11_lives_26 : decode cX11_lives 26 = .ok (.iload 5, 2) := by decide +kernel
theorem dX11_lives_28 : decode cX11_lives 28 = .ok (.iload_n 2, 1) := by decide +kernel
theorem dX11_lives_29 : decode cX11_lives 29 = .ok (.if_icmp .ge 55, 3) := by decide +kernel
theorem dX11_lives_32 : decode cX11_lives 32 = .ok (.aload_n 0, 1) := by decide +kernel
theorem dX11_lives_33 : decode cX11_lives 33 = .ok (.getfield 81, 3) := by decide +kernel
theorem dX11_lives_36 : decode cX11_lives 36 = .ok (.aload_n 0, 1) := by decide +kernel
theorem dX11_lives_37 : decode cX11_lives 37 = .ok (.getfield 32, 3) := by decide +kernel
theorem dX11_lives_40 : decode cX11_lives 40 = .ok (.aload_n 0, 1) := by decide +kernel
theorem dX11_lives_41 : decode cX11_lives 41 = .ok (.getfield 39, 3) := by decide +kernel
theorem dX11_lives_44 : decode cX11_lives 44 = .ok (.iload 4, 2) := by decide +kernel
theorem dX11_lives_46 : decode cX11_lives 46 = .ok (.iconst 3, 1) := by decide +kernel
theorem dX11_lives_47 : decode cX11_lives 47 = .ok (.invokevirtual 315, 3) := by decide +kernel
theorem dX11_lives_50 : decode cX11_lives 50 = .ok (.aload_n 0, 1) := by decide +kernel
theorem dX11_lives_51 : decode cX11_lives 51 = .ok (.getfield 81, 3) := by decide +kernel
theorem dX11_lives_54 : decode cX11_lives 54 = .ok (.getfield 322, 3) := by decide +kernel
theorem dX11_lives_57 : decode cX11_lives 57 = .ok (.getfield 328, 3) := by decide +kernel
theorem dX11_lives_60 : decode cX11_lives 60 = .ok (.istore 4, 2) := by decide +kernel
theorem dX11_lives_62 : decode cX11_lives 62 = .ok (.aload_n 0, 1) := by decide +kernel
theorem dX11_lives_63 : decode cX11_lives 63 = .ok (.getfield 81, 3) := by decide +kernel
theorem dX11_lives_66 : decode cX11_lives 66 = .ok (.getfield 322, 3) := by decide +kernel
theorem dX11_lives_69 : decode cX11_lives 69 = .ok (.invokevirtual 331, 3) := by decide +kernel
theorem dX11_lives_72 : decode cX11_lives 72 = .ok (.ifCond .eq 6, 3) := by decide +kernel
theorem dX11_lives_75 : decode cX11_lives 75 = .ok (.iinc 3 1, 3) := by decide +kernel
theorem dX11_lives_78 : decode cX11_lives 78 = .ok (.iinc 5 1, 3) := by decide +kernel
theorem dX11_lives_81 : decode cX11_lives 81 = .ok (.goto (-55), 3) := by decide +kernel
theorem dX11_lives_84 : decode cX11_lives 84 = .ok (.iload_n 3, 1) := by decide +kernel
theorem dX11_lives_85 : decode cX11_lives 85 = .ok (.ireturn, 1) := by decide +kernel
theorem dX11_sail_0 : decode cX11_sail 0 = .ok (.aload_n 0, 1) := by decide +kernel
theorem dX11_sail_1 : decode cX11_sail 1 = .ok (.aload_n 0, 1) := by decide +kernel
theorem dX11_sail_2 : decode cX11_sail 2 = .ok (.iload_n 1, 1) := by decide +kernel
theorem dX11_sail_3 : decode cX11_sail 3 = .ok (.invokevirtual 335, 3) := by decide +kernel
theorem dX11_sail_6 : decode cX11_sail 6 = .ok (.invokevirtual 110, 3) := by decide +kernel
theorem dX11_sail_9 : decode cX11_sail 9 = .ok (.ifCond .eq 5, 3) := by decide +kernel
theorem dX11_sail_12 : decode cX11_sail 12 = .ok (.iconst (-1), 1) := by decide +kernel
theorem dX11_sail_13 : decode cX11_sail 13 = .ok (.ireturn, 1) := by decide +kernel
theorem dX11_sail_14 : decode cX11_sail 14 = .ok (.aload_n 0, 1) := by decide +kernel
theorem dX11_sail_15 : decode cX11_sail 15 = .ok (.getfield 46, 3) := by decide +kernel
theorem dX11_sail_18 : decode cX11_sail 18 = .ok (.aload_n 0, 1) := by decide +kernel
theorem dX11_sail_19 : decode cX11_sail 19 = .ok (.getfield 39, 3) := by decide +kernel
theorem dX11_sail_22 : decode cX11_sail 22 = .ok (.invokevirtual 338, 3) := by decide +kernel
theorem dX11_sail_25 : decode cX11_sail 25 = .ok (.aload_n 0, 1) := by decide +kernel
theorem dX11_sail_26 : decode cX11_sail 26 = .ok (.getfield 39, 3) := by decide +kernel
theorem dX11_sail_29 : decode cX11_sail 29 = .ok (.aload_n 0, 1) := by decide +kernel
theorem dX11_sail_30 : decode cX11_sail 30 = .ok (.getfield 32, 3) := by decide +kernel
theorem dX11_sail_33 : decode cX11_sail 33 = .ok (.iload_n 1, 1) := by decide +kernel
theorem dX11_sail_34 : decode cX11_sail 34 = .ok (.invokevirtual 342, 3) := by decide +kernel
theorem dX11_sail_37 : decode cX11_sail 37 = .ok (.aload_n 0, 1) := by decide +kernel
theorem dX11_sail_38 : decode cX11_sail 38 = .ok (.getfield 39, 3) := by decide +kernel
theorem dX11_sail_41 : decode cX11_sail 41 = .ok (.getfield 346, 3) := by decide +kernel
theorem dX11_sail_44 : decode cX11_sail 44 = .ok (.ireturn, 1) := by decide +kernel
theorem dX11_court_0 : decode cX11_court 0 = .ok (.aload_n 0, 1) := by decide +kernel
theorem dX11_court_1 : decode cX11_court 1 = .ok (.aload_n 0, 1) := by decide +kernel
theorem dX11_court_2 : decode cX11_court 2 = .ok (.iload_n 1, 1) := by decide +kernel
theorem dX11_court_3 : decode cX11_court 3 = .ok (.invokevirtual 349, 3) := by decide +kernel
theorem dX11_court_6 : decode cX11_court 6 = .ok (.invokevirtual 110, 3) := by decide +kernel
theorem dX11_court_9 : decode cX11_court 9 = .ok (.ifCond .eq 5, 3) := by decide +kernel
theorem dX11_court_12 : decode cX11_court 12 = .ok (.iconst (-1), 1) := by decide +kernel
theorem dX11_court_13 : decode cX11_court 13 = .ok (.ireturn, 1) := by decide +kernel
theorem dX11_court_14 : decode cX11_court 14 = .ok (.aload_n 0, 1) := by decide +kernel
theorem dX11_court_15 : decode cX11_court 15 = .ok (.getfield 46, 3) := by decide +kernel
theorem dX11_court_18 : decode cX11_court 18 = .ok (.aload_n 0, 1) := by decide +kernel
theorem dX11_court_19 : decode cX11_court 19 = .ok (.getfield 39, 3) := by decide +kernel
theorem dX11_court_22 : decode cX11_court 22 = .ok (.invokevirtual 338, 3) := by decide +kernel
theorem dX11_court_25 : decode cX11_court 25 = .ok (.aload_n 0, 1) := by decide +kernel
theorem dX11_court_26 : decode cX11_court 26 = .ok (.getfield 39, 3) := by decide +kernel
theorem dX11_court_29 : decode cX11_court 29 = .ok (.aload_n 0, 1) := by decide +kernel
theorem dX11_court_30 : decode cX11_court 30 = .ok (.getfield 32, 3) := by decide +kernel
theorem dX11_court_33 : decode cX11_court 33 = .ok (.iload_n 1, 1) := by decide +kernel
theorem dX11_court_34 : decode cX11_court 34 = .ok (.invokevirtual 352, 3) := by decide +kernel
theorem dX11_court_37 : decode cX11_court 37 = .ok (.aload_n 0, 1) := by decide +kernel
theorem dX11_court_38 : decode cX11_court 38 = .ok (.getfield 39, 3) := by decide +kernel
theorem dX11_court_41 : decode cX11_court 41 = .ok (.invokevirtual 331, 3) := by decide +kernel
theorem dX11_court_44 : decode cX11_court 44 = .ok (.ifCond .eq 7, 3) := by decide +kernel
theorem dX11_court_47 : decode cX11_court 47 = .ok (.iconst 1, 1) := by decide +kernel
theorem dX11_court_48 : decode cX11_court 48 = .ok (.goto 4, 3) := by decide +kernel
theorem dX11_court_51 : decode cX11_court 51 = .ok (.iconst 0, 1) := by decide +kernel
theorem dX11_court_52 : decode cX11_court 52 = .ok (.ireturn, 1) := by decide +kernel
theorem dX11_seed_0 : decode cX11_seed 0 = .ok (.aload_n 0, 1) := by decide +kernel
theorem dX11_seed_1 : decode cX11_seed 1 = .ok (.aload_n 0, 1) := by decide +kernel
theorem dX11_seed_2 : decode cX11_seed 2 = .ok (.invokevirtual 202, 3) := by decide +kernel
theorem dX11_seed_5 : decode cX11_seed 5 = .ok (.iload_n 1, 1) := by decide +kernel
theorem dX11_seed_6 : decode cX11_seed 6 = .ok (.iconst 0, 1) := by decide +kernel
theorem dX11_seed_7 : decode cX11_seed 7 = .ok (.ldc_w 355, 3) := by decide +kernel
theorem dX11_seed_10 : decode cX11_seed 10 = .ok (.invokestatic 106, 3) := by decide +kernel
theorem dX11_seed_13 : decode cX11_seed 13 = .ok (.invokestatic 140, 3) := by decide +kernel
theorem dX11_seed_16 : decode cX11_seed 16 = .ok (.invokevirtual 110, 3) := by decide +kernel
theorem dX11_seed_19 : decode cX11_seed 19 = .ok (.ifCond .eq 5, 3) := by decide +kernel
theorem dX11_seed_22 : decode cX11_seed 22 = .ok (.iconst 0, 1) := by decide +kernel
theorem dX11_seed_23 : decode cX11_seed 23 = .ok (.ireturn, 1) := by decide +kernel
theorem dX11_seed_24 : decode cX11_seed 24 = .ok (.aload_n 0, 1) := by decide +kernel
theorem dX11_seed_25 : decode cX11_seed 25 = .ok (.getfield 39, 3) := by decide +kernel
theorem dX11_seed_28 : decode cX11_seed 28 = .ok (.iload_n 1, 1) := by decide +kernel
theorem dX11_seed_29 : decode cX11_seed 29 = .ok (.putfield 328, 3) := by decide +kernel
theorem dX11_seed_32 : decode cX11_seed 32 = .ok (.iconst 1, 1) := by decide +kernel
theorem dX11_seed_33 : decode cX11_seed 33 = .ok (.ireturn, 1) := by decide +kernel
theorem dX11_undo_0 : decode cX11_undo 0 = .ok (.aload_n 0, 1) := by decide +kernel
theorem dX11_undo_1 : decode cX11_undo 1 = .ok (.aload_n 0, 1) := by decide +kernel
theorem dX11_undo_2 : decode cX11_undo 2 = .ok (.getfield 46, 3) := by decide +kernel
theorem dX11_undo_5 : decode cX11_undo 5 = .ok (.getfield 356, 3) := by decide +kernel
theorem dX11_undo_8 : decode cX11_undo 8 = .ok (.ifCond .ne 8, 3) := by decide +kernel
theorem dX11_undo_11 : decode cX11_undo 11 = .ok (.bipush 6, 2) := by decide +kernel
theorem dX11_undo_13 : decode cX11_undo 13 = .ok (.goto 4, 3) := by decide +kernel
theorem dX11_undo_16 : decode cX11_undo 16 = .ok (.iconst 0, 1) := by decide +kernel
theorem dX11_undo_17 : decode cX11_undo 17 = .ok (.invokevirtual 110, 3) := by decide +kernel
theorem dX11_undo_20 : decode cX11_undo 20 = .ok (.ifCond .eq 5, 3) := by decide +kernel
theorem dX11_undo_23 : decode cX11_undo 23 = .ok (.iconst 0, 1) := by decide +kernel
theorem dX11_undo_24 : decode cX11_undo 24 = .ok (.ireturn, 1) := by decide +kernel
theorem dX11_undo_25 : decode cX11_undo 25 = .ok (.aload_n 0, 1) := by decide +kernel
theorem dX11_undo_26 : decode cX11_undo 26 = .ok (.getfield 46, 3) := by decide +kernel
theorem dX11_undo_29 : decode cX11_undo 29 = .ok (.aload_n 0, 1) := by decide +kernel
theorem dX11_undo_30 : decode cX11_undo 30 = .ok (.getfield 39, 3) := by decide +kernel
theorem dX11_undo_33 : decode cX11_undo 33 = .ok (.invokevirtual 359, 3) := by decide +kernel
theorem dX11_undo_36 : decode cX11_undo 36 = .ok (.iconst 1, 1) := by decide +kernel
theorem dX11_undo_37 : decode cX11_undo 37 = .ok (.ireturn, 1) := by decide +kernel
theorem dX11_image_0 : decode cX11_image 0 = .ok (.aload_n 0, 1) := by decide +kernel
theorem dX11_image_1 : decode cX11_image 1 = .ok (.aload_n 0, 1) := by decide +kernel
theorem dX11_image_2 : decode cX11_image 2 = .ok (.invokevirtual 202, 3) := by decide +kernel
theorem dX11_image_5 : decode cX11_image 5 = .ok (.aload_n 0, 1) := by decide +kernel
theorem dX11_image_6 : decode cX11_image 6 = .ok (.getfield 46, 3) := by decide +kernel
theorem dX11_image_9 : decode cX11_image 9 = .ok (.invokevirtual 362, 3) := by decide +kernel
theorem dX11_image_12 : decode cX11_image 12 = .ok (.ifCond .eq 7, 3) := by decide +kernel
theorem dX11_image_15 : decode cX11_image 15 = .ok (.iconst 0, 1) := by decide +kernel
theorem dX11_image_16 : decode cX11_image 16 = .ok (.goto 4, 3) := by decide +kernel
theorem dX11_image_19 : decode cX11_image 19 = .ok (.iconst 3, 1) := by decide +kernel
theorem dX11_image_20 : decode cX11_image 20 = .ok (.invokestatic 140, 3) := by decide +kernel
theorem dX11_image_23 : decode cX11_image 23 = .ok (.invokevirtual 110, 3) := by decide +kernel
theorem dX11_image_26 : decode cX11_image 26 = .ok (.ifCond .eq 5, 3) := by decide +kernel
theorem dX11_image_29 : decode cX11_image 29 = .ok (.iconst (-1), 1) := by decide +kernel
theorem dX11_image_30 : decode cX11_image 30 = .ok (.ireturn, 1) := by decide +kernel
theorem dX11_image_31 : decode cX11_image 31 = .ok (.aload_n 0, 1) := by decide +kernel
theorem dX11_image_32 : decode cX11_image 32 = .ok (.getfield 46, 3) := by decide +kernel
theorem dX11_image_35 : decode cX11_image 35 = .ok (.aload_n 0, 1) := by decide +kernel
theorem dX11_image_36 : decode cX11_image 36 = .ok (.getfield 39, 3) := by decide +kernel
theorem dX11_image_39 : decode cX11_image 39 = .ok (.invokevirtual 365, 3) := by decide +kernel
theorem dX11_image_42 : decode cX11_image 42 = .ok (.ireturn, 1) := by decide +kernel
theorem dX11_back_0 : decode cX11_back 0 = .ok (.aload_n 0, 1) := by decide +kernel
theorem dX11_back_1 : decode cX11_back 1 = .ok (.iload_n 1, 1) := by decide +kernel
theorem dX11_back_2 : decode cX11_back 2 = .ok (.aload_n 0, 1) := by decide +kernel
theorem dX11_back_3 : decode cX11_back 3 = .ok (.getfield 46, 3) := by decide +kernel
theorem dX11_back_6 : decode cX11_back 6 = .ok (.getfield 369, 3) := by decide +kernel
theorem dX11_back_9 : decode cX11_back 9 = .ok (.invokestatic 136, 3) := by decide +kernel
theorem dX11_back_12 : decode cX11_back 12 = .ok (.invokevirtual 110, 3) := by decide +kernel
theorem dX11_back_15 : decode cX11_back 15 = .ok (.ifCond .eq 5, 3) := by decide +kernel
theorem dX11_back_18 : decode cX11_back 18 = .ok (.iconst 0, 1) := by decide +kernel
theorem dX11_back_19 : decode cX11_back 19 = .ok (.ireturn, 1) := by decide +kernel
theorem dX11_back_20 : decode cX11_back 20 = .ok (.aload_n 0, 1) := by decide +kernel
theorem dX11_back_21 : decode cX11_back 21 = .ok (.getfield 46, 3) := by decide +kernel
theorem dX11_back_24 : decode cX11_back 24 = .ok (.iload_n 1, 1) := by decide +kernel
theorem dX11_back_25 : decode cX11_back 25 = .ok (.aload_n 0, 1) := by decide +kernel
theorem dX11_back_26 : decode cX11_back 26 = .ok (.getfield 39, 3) := by decide +kernel
theorem dX11_back_29 : decode cX11_back 29 = .ok (.invokevirtual 372, 3) := by decide +kernel
theorem dX11_back_32 : decode cX11_back 32 = .ok (.iconst 1, 1) := by decide +kernel
theorem dX11_back_33 : decode cX11_back 33 = .ok (.ireturn, 1) := by decide +kernel
theorem dX11_led_0 : decode cX11_led 0 = .ok (.iload_n 1, 1) := by decide +kernel
theorem dX11_led_1 : decode cX11_led 1 = .ok (.ifCond .ge 8, 3) := by decide +kernel
theorem dX11_led_4 : decode cX11_led 4 = .ok (.bipush (-2), 2) := by decide +kernel
theorem dX11_led_6 : decode cX11_led 6 = .ok (.goto 11, 3) := by decide +kernel
theorem dX11_led_9 : decode cX11_led 9 = .ok (.aload_n 0, 1) := by decide +kernel
theorem dX11_led_10 : decode cX11_led 10 = .ok (.getfield 39, 3) := by decide +kernel
theorem dX11_led_13 : decode cX11_led 13 = .ok (.iload_n 1, 1) := by decide +kernel
theorem dX11_led_14 : decode cX11_led 14 = .ok (.invokevirtual 376, 3) := by decide +kernel
theorem dX11_led_17 : decode cX11_led 17 = .ok (.istore_n 2, 1) := by decide +kernel
theorem dX11_led_18 : decode cX11_led 18 = .ok (.iload_n 2, 1) := by decide +kernel
theorem dX11_led_19 : decode cX11_led 19 = .ok (.bipush (-2), 2) := by decide +kernel
theorem dX11_led_21 : decode cX11_led 21 = .ok (.if_icmp .ne 14, 3) := by decide +kernel
theorem dX11_led_24 : decode cX11_led 24 = .ok (.new 379, 3) := by decide +kernel
theorem dX11_led_27 : decode cX11_led 27 = .ok (.dup, 1) := by decide +kernel
theorem dX11_led_28 : decode cX11_led 28 = .ok (.ldc_w 381, 3) := by decide +kernel
theorem dX11_led_31 : decode cX11_led 31 = .ok (.invokespecial 383, 3) := by decide +kernel
theorem dX11_led_34 : decode cX11_led 34 = .ok (.athrow, 1) := by decide +kernel
theorem dX11_led_35 : decode cX11_led 35 = .ok (.iload_n 2, 1) := by decide +kernel
theorem dX11_led_36 : decode cX11_led 36 = .ok (.ireturn, 1) := by decide +kernel
theorem dX11_size_0 : decode cX11_size 0 = .ok (.iload_n 1, 1) := by decide +kernel
theorem dX11_size_1 : decode cX11_size 1 = .ok (.iconst 2, 1) := by decide +kernel
theorem dX11_size_2 : decode cX11_size 2 = .ok (.if_icmp .lt 21, 3) := by decide +kernel
theorem dX11_size_5 : decode cX11_size 5 = .ok (.iload_n 1, 1) := by decide +kernel
theorem dX11_size_6 : decode cX11_size 6 = .ok (.bipush 8, 2) := by decide +kernel
theorem dX11_size_8 : decode cX11_size 8 = .ok (.if_icmp .gt 15, 3) := by decide +kernel
theorem dX11_size_11 : decode cX11_size 11 = .ok (.aload_n 0, 1) := by decide +kernel
theorem dX11_size_12 : decode cX11_size 12 = .ok (.getfield 32, 3) := by decide +kernel
theorem dX11_size_15 : decode cX11_size 15 = .ok (.getfield 129, 3) := by decide +kernel
theorem dX11_size_18 : decode cX11_size 18 = .ok (.iload_n 1, 1) := by decide +kernel
theorem dX11_size_19 : decode cX11_size 19 = .ok (.iconst 2, 1) := by decide +kernel
theorem dX11_size_20 : decode cX11_size 20 = .ok (.isub, 1) := by decide +kernel
theorem dX11_size_21 : decode cX11_size 21 = .ok (.iaload, 1) := by decide +kernel
theorem dX11_size_22 : decode cX11_size 22 = .ok (.ireturn, 1) := by decide +kernel
theorem dX11_size_23 : decode cX11_size 23 = .ok (.iload_n 1, 1) := by decide +kernel
theorem dX11_size_24 : decode cX11_size 24 = .ok (.tableswitch 166 0 15 #[80, 88, 166, 166, 166, 166, 166, 166, 166, 96, 104, 112, 134, 142, 150, 158], 80) := by decide +kernel
theorem dX11_size_104 : decode cX11_size 104 = .ok (.aload_n 0, 1) := by decide +kernel
theorem dX11_size_105 : decode cX11_size 105 = .ok (.getfield 32, 3) := by decide +kernel
theorem dX11_size_108 : decode cX11_size 108 = .ok (.getfield 179, 3) := by decide +kernel
theorem dX11_size_111 : decode cX11_size 111 = .ok (.ireturn, 1) := by decide +kernel
theorem dX11_size_112 : decode cX11_size 112 = .ok (.aload_n 0, 1) := by decide +kernel
theorem dX11_size_113 : decode cX11_size 113 = .ok (.getfield 32, 3) := by decide +kernel
theorem dX11_size_116 : decode cX11_size 116 = .ok (.getfield 386, 3) := by decide +kernel
theorem dX11_size_119 : decode cX11_size 119 = .ok (.ireturn, 1) := by decide +kernel
theorem dX11_size_120 : decode cX11_size 120 = .ok (.aload_n 0, 1) := by decide +kernel
theorem dX11_size_121 : decode cX11_size 121 = .ok (.getfield 39, 3) := by decide +kernel
theorem dX11_size_124 : decode cX11_size 124 = .ok (.getfield 346, 3) := by decide +kernel
theorem dX11_size_127 : decode cX11_size 127 = .ok (.ireturn, 1) := by decide +kernel
theorem dX11_size_128 : decode cX11_size 128 = .ok (.aload_n 0, 1) := by decide +kernel
theorem dX11_size_129 : decode cX11_size 129 = .ok (.getfield 39, 3) := by decide +kernel
theorem dX11_size_132 : decode cX11_size 132 = .ok (.getfield 389, 3) := by decide +kernel
theorem dX11_size_135 : decode cX11_size 135 = .ok (.ireturn, 1) := by decide +kernel
theorem dX11_size_136 : decode cX11_size 136 = .ok (.aload_n 0, 1) := by decide +kernel
theorem dX11_size_137 : decode cX11_size 137 = .ok (.getfield 32, 3) := by decide +kernel
theorem dX11_size_140 : decode cX11_size 140 = .ok (.invokevirtual 392, 3) := by decide +kernel
theorem dX11_size_143 : decode cX11_size 143 = .ok (.ifCond .eq 13, 3) := by decide +kernel
theorem dX11_size_146 : decode cX11_size 146 = .ok (.aload_n 0, 1) := by decide +kernel
theorem dX11_size_147 : decode cX11_size 147 = .ok (.getfield 39, 3) := by decide +kernel
theorem dX11_size_150 : decode cX11_size 150 = .ok (.getfield 325, 3) := by decide +kernel
theorem dX11_size_153 : decode cX11_size 153 = .ok (.goto 4, 3) := by decide +kernel
theorem dX11_size_156 : decode cX11_size 156 = .ok (.iconst 0, 1) := by decide +kernel
theorem dX11_size_157 : decode cX11_size 157 = .ok (.ireturn, 1) := by decide +kernel
theorem dX11_size_158 : decode cX11_size 158 = .ok (.aload_n 0, 1) := by decide +kernel
theorem dX11_size_159 : decode cX11_size 159 = .ok (.getfield 39, 3) := by decide +kernel
theorem dX11_size_162 : decode cX11_size 162 = .ok (.getfield 328, 3) := by decide +kernel
theorem dX11_size_165 : decode cX11_size 165 = .ok (.ireturn, 1) := by decide +kernel
theorem dX11_size_166 : decode cX11_size 166 = .ok (.aload_n 0, 1) := by decide +kernel
theorem dX11_size_167 : decode cX11_size 167 = .ok (.getfield 46, 3) := by decide +kernel
theorem dX11_size_170 : decode cX11_size 170 = .ok (.getfield 356, 3) := by decide +kernel
theorem dX11_size_173 : decode cX11_size 173 = .ok (.ireturn, 1) := by decide +kernel
theorem dX11_size_174 : decode cX11_size 174 = .ok (.aload_n 0, 1) := by decide +kernel
theorem dX11_size_175 : decode cX11_size 175 = .ok (.getfield 46, 3) := by decide +kernel
theorem dX11_size_178 : decode cX11_size 178 = .ok (.getfield 369, 3) := by decide +kernel
theorem dX11_size_181 : decode cX11_size 181 = .ok (.ireturn, 1) := by decide +kernel
theorem dX11_size_182 : decode cX11_size 182 = .ok (.aload_n 0, 1) := by decide +kernel
theorem dX11_size_183 : decode cX11_size 183 = .ok (.getfield 10, 3) := by decide +kernel
theorem dX11_size_186 : decode cX11_size 186 = .ok (.getfield 103, 3) := by decide +kernel
theorem dX11_size_189 : decode cX11_size 189 = .ok (.ireturn, 1) := by decide +kernel
theorem dX11_size_190 : decode cX11_size 190 = .ok (.iconst (-1), 1) := by decide +kernel
theorem dX11_size_191 : decode cX11_size 191 = .ok (.ireturn, 1) := by decide +kernel
theorem dX11_trouble_0 : decode cX11_trouble 0 = .ok (.aload_n 0, 1) := by decide +kernel
theorem dX11_trouble_1 : decode cX11_trouble 1 = .ok (.getfield 85, 3) := by decide +kernel
theorem dX11_trouble_4 : decode cX11_trouble 4 = .ok (.ireturn, 1) := by decide +kernel
theorem dX11_refused_0 : decode cX11_refused 0 = .ok (.aload_n 0, 1) := by decide +kernel
theorem dX11_refused_1 : decode cX11_refused 1 = .ok (.iload_n 1, 1) := by decide +kernel
theorem dX11_refused_2 : decode cX11_refused 2 = .ok (.putfield 85, 3) := by decide +kernel
theorem dX11_refused_5 : decode cX11_refused 5 = .ok (.iload_n 1, 1) := by decide +kernel
theorem dX11_refused_6 : decode cX11_refused 6 = .ok (.ifCond .eq 7, 3) := by decide +kernel
theorem dX11_refused_9 : decode cX11_refused 9 = .ok (.iconst 1, 1) := by decide +kernel
theorem dX11_refused_10 : decode cX11_refused 10 = .ok (.goto 4, 3) := by decide +kernel
theorem dX11_refused_13 : decode cX11_refused 13 = .ok (.iconst 0, 1) := by decide +kernel
theorem dX11_refused_14 : decode cX11_refused 14 = .ok (.ireturn, 1) := by decide +kernel
theorem dX11_either_0 : decode cX11_either 0 = .ok (.iload_n 0, 1) := by decide +kernel
theorem dX11_either_1 : decode cX11_either 1 = .ok (.ifCond .eq 7, 3) := by decide +kernel
theorem dX11_either_4 : decode cX11_either 4 = .ok (.iload_n 0, 1) := by decide +kernel
theorem dX11_either_5 : decode cX11_either 5 = .ok (.goto 4, 3) := by decide +kernel
theorem dX11_either_8 : decode cX11_either 8 = .ok (.iload_n 1, 1) := by decide +kernel
theorem dX11_either_9 : decode cX11_either 9 = .ok (.ireturn, 1) := by decide +kernel
theorem dX11_ofNumber_0 : decode cX11_ofNumber 0 = .ok (.iload_n 0, 1) := by decide +kernel
theorem dX11_ofNumber_1 : decode cX11_ofNumber 1 = .ok (.iload_n 1, 1) := by decide +kernel
theorem dX11_ofNumber_2 : decode cX11_ofNumber 2 = .ok (.if_icmp .lt 12, 3) := by decide +kernel
theorem dX11_ofNumber_5 : decode cX11_ofNumber 5 = .ok (.iload_n 0, 1) := by decide +kernel
theorem dX11_ofNumber_6 : decode cX11_ofNumber 6 = .ok (.iload_n 2, 1) := by decide +kernel
theorem dX11_ofNumber_7 : decode cX11_ofNumber 7 = .ok (.if_icmp .gt 7, 3) := by decide +kernel
theorem dX11_ofNumber_10 : decode cX11_ofNumber 10 = .ok (.iconst 0, 1) := by decide +kernel
theorem dX11_ofNumber_11 : decode cX11_ofNumber 11 = .ok (.goto 4, 3) := by decide +kernel
theorem dX11_ofNumber_14 : decode cX11_ofNumber 14 = .ok (.iconst 2, 1) := by decide +kernel
theorem dX11_ofNumber_15 : decode cX11_ofNumber 15 = .ok (.ireturn, 1) := by decide +kernel
theorem dX11_ofIndex_0 : decode cX11_ofIndex 0 = .ok (.iload_n 0, 1) := by decide +kernel
theorem dX11_ofIndex_1 : decode cX11_ofIndex 1 = .ok (.ifCond .lt 12, 3) := by decide +kernel
theorem dX11_ofIndex_4 : decode cX11_ofIndex 4 = .ok (.iload_n 0, 1) := by decide +kernel
theorem dX11_ofIndex_5 : decode cX11_ofIndex 5 = .ok (.iload_n 1, 1) := by decide +kernel
theorem dX11_ofIndex_6 : decode cX11_ofIndex 6 = .ok (.if_icmp .ge 7, 3) := by decide +kernel
theorem dX11_ofIndex_9 : decode cX11_ofIndex 9 = .ok (.iconst 0, 1) := by decide +kernel
theorem dX11_ofIndex_10 : decode cX11_ofIndex 10 = .ok (.goto 4, 3) := by decide +kernel
theorem dX11_ofIndex_13 : decode cX11_ofIndex 13 = .ok (.iconst 1, 1) := by decide +kernel
theorem dX11_ofIndex_14 : decode cX11_ofIndex 14 = .ok (.ireturn, 1) := by decide +kernel
theorem dX11_ofOath_0 : decode cX11_ofOath 0 = .ok (.aload_n 0, 1) := by decide +kernel
theorem dX11_ofOath_1 : decode cX11_ofOath 1 = .ok (.getfield 32, 3) := by decide +kernel
theorem dX11_ofOath_4 : decode cX11_ofOath 4 = .ok (.invokevirtual 392, 3) := by decide +kernel
theorem dX11_ofOath_7 : decode cX11_ofOath 7 = .ok (.ifCond .eq 7, 3) := by decide +kernel
theorem dX11_ofOath_10 : decode cX11_ofOath 10 = .ok (.iconst 0, 1) := by decide +kernel
theorem dX11_ofOath_11 : decode cX11_ofOath 11 = .ok (.goto 4, 3) := by decide +kernel
theorem dX11_ofOath_14 : decode cX11_ofOath 14 = .ok (.iconst 1, 1) := by decide +kernel
theorem dX11_ofOath_15 : decode cX11_ofOath 15 = .ok (.ireturn, 1) := by decide +kernel
theorem dX11_ofHarbour_0 : decode cX11_ofHarbour 0 = .ok (.iload_n 1, 1) := by decide +kernel
theorem dX11_ofHarbour_1 : decode cX11_ofHarbour 1 = .ok (.aload_n 0, 1) := by decide +kernel
theorem dX11_ofHarbour_2 : decode cX11_ofHarbour 2 = .ok (.getfield 32, 3) := by decide +kernel
theorem dX11_ofHarbour_5 : decode cX11_ofHarbour 5 = .ok (.getfield 129, 3) := by decide +kernel
theorem dX11_ofHarbour_8 : decode cX11_ofHarbour 8 = .ok (.iconst 0, 1) := by decide +kernel
theorem dX11_ofHarbour_9 : decode cX11_ofHarbour 9 = .ok (.iaload, 1) := by decide +kernel
theorem dX11_ofHarbour_10 : decode cX11_ofHarbour 10 = .ok (.invokestatic 136, 3) := by decide +kernel
theorem dX11_ofHarbour_13 : decode cX11_ofHarbour 13 = .ok (.ireturn, 1) := by decide +kernel
theorem dX11_ofWoman_0 : decode cX11_ofWoman 0 = .ok (.iload_n 1, 1) := by decide +kernel
theorem dX11_ofWoman_1 : decode cX11_ofWoman 1 = .ok (.aload_n 0, 1) := by decide +kernel
theorem dX11_ofWoman_2 : decode cX11_ofWoman 2 = .ok (.getfield 32, 3) := by decide +kernel
theorem dX11_ofWoman_5 : decode cX11_ofWoman 5 = .ok (.getfield 129, 3) := by decide +kernel
theorem dX11_ofWoman_8 : decode cX11_ofWoman 8 = .ok (.iconst 2, 1) := by decide +kernel
theorem dX11_ofWoman_9 : decode cX11_ofWoman 9 = .ok (.iaload, 1) := by decide +kernel
theorem dX11_ofWoman_10 : decode cX11_ofWoman 10 = .ok (.invokestatic 136, 3) := by decide +kernel
theorem dX11_ofWoman_13 : decode cX11_ofWoman 13 = .ok (.ireturn, 1) := by decide +kernel
theorem dX11_ofHand_0 : decode cX11_ofHand 0 = .ok (.iload_n 1, 1) := by decide +kernel
theorem dX11_ofHand_1 : decode cX11_ofHand 1 = .ok (.aload_n 0, 1) := by decide +kernel
theorem dX11_ofHand_2 : decode cX11_ofHand 2 = .ok (.getfield 32, 3) := by decide +kernel
theorem dX11_ofHand_5 : decode cX11_ofHand 5 = .ok (.getfield 129, 3) := by decide +kernel
theorem dX11_ofHand_8 : decode cX11_ofHand 8 = .ok (.iconst 5, 1) := by decide +kernel
theorem dX11_ofHand_9 : decode cX11_ofHand 9 = .ok (.iaload, 1) := by decide +kernel
theorem dX11_ofHand_10 : decode cX11_ofHand 10 = .ok (.invokestatic 136, 3) := by decide +kernel
theorem dX11_ofHand_13 : decode cX11_ofHand 13 = .ok (.ireturn, 1) := by decide +kernel
theorem dX11_ofLanding_0 : decode cX11_ofLanding 0 = .ok (.iload_n 1, 1) := by decide +kernel
theorem dX11_ofLanding_1 : decode cX11_ofLanding 1 = .ok (.iconst 0, 1) := by decide +kernel
theorem dX11_ofLanding_2 : decode cX11_ofLanding 2 = .ok (.bipush 30, 2) := by decide +kernel
theorem dX11_ofLanding_4 : decode cX11_ofLanding 4 = .ok (.invokestatic 106, 3) := by decide +kernel
theorem dX11_ofLanding_7 : decode cX11_ofLanding 7 = .ok (.ireturn, 1) := by decide +kernel
theorem dX11_ofFreedom_0 : decode cX11_ofFreedom 0 = .ok (.aload_n 0, 1) := by decide +kernel
theorem dX11_ofFreedom_1 : decode cX11_ofFreedom 1 = .ok (.getfield 39, 3) := by decide +kernel
theorem dX11_ofFreedom_4 : decode cX11_ofFreedom 4 = .ok (.invokevirtual 331, 3) := by decide +kernel
theorem dX11_ofFreedom_7 : decode cX11_ofFreedom 7 = .ok (.ifCond .eq 7, 3) := by decide +kernel
theorem dX11_ofFreedom_10 : decode cX11_ofFreedom 10 = .ok (.iconst 5, 1) := by decide +kernel
theorem dX11_ofFreedom_11 : decode cX11_ofFreedom 11 = .ok (.goto 4, 3) := by decide +kernel
theorem dX11_ofFreedom_14 : decode cX11_ofFreedom 14 = .ok (.iconst 0, 1) := by decide +kernel
theorem dX11_ofFreedom_15 : decode cX11_ofFreedom 15 = .ok (.ireturn, 1) := by decide +kernel
theorem dX11_ofPlan_0 : decode cX11_ofPlan 0 = .ok (.aload_n 0, 1) := by decide +kernel
theorem dX11_ofPlan_1 : decode cX11_ofPlan 1 = .ok (.invokevirtual 202, 3) := by decide +kernel
theorem dX11_ofPlan_4 : decode cX11_ofPlan 4 = .ok (.iload_n 1, 1) := by decide +kernel
theorem dX11_ofPlan_5 : decode cX11_ofPlan 5 = .ok (.iload_n 2, 1) := by decide +kernel
theorem dX11_ofPlan_6 : decode cX11_ofPlan 6 = .ok (.iload_n 3, 1) := by decide +kernel
theorem dX11_ofPlan_7 : decode cX11_ofPlan 7 = .ok (.invokestatic 106, 3) := by decide +kernel
theorem dX11_ofPlan_10 : decode cX11_ofPlan 10 = .ok (.aload_n 0, 1) := by decide +kernel
theorem dX11_ofPlan_11 : decode cX11_ofPlan 11 = .ok (.invokevirtual 395, 3) := by decide +kernel
theorem dX11_ofPlan_14 : decode cX11_ofPlan 14 = .ok (.invokestatic 140, 3) := by decide +kernel
theorem dX11_ofPlan_17 : decode cX11_ofPlan 17 = .ok (.invokestatic 140, 3) := by decide +kernel
theorem dX11_ofPlan_20 : decode cX11_ofPlan 20 = .ok (.ireturn, 1) := by decide +kernel
theorem dX11_ofLife_0 : decode cX11_ofLife 0 = .ok (.aload_n 0, 1) := by decide +kernel
theorem dX11_ofLife_1 : decode cX11_ofLife 1 = .ok (.invokevirtual 202, 3) := by decide +kernel
theorem dX11_ofLife_4 : decode cX11_ofLife 4 = .ok (.iload_n 1, 1) := by decide +kernel
theorem dX11_ofLife_5 : decode cX11_ofLife 5 = .ok (.iconst 0, 1) := by decide +kernel
theorem dX11_ofLife_6 : decode cX11_ofLife 6 = .ok (.ldc_w 355, 3) := by decide +kernel
theorem dX11_ofLife_9 : decode cX11_ofLife 9 = .ok (.invokestatic 106, 3) := by decide +kernel
theorem dX11_ofLife_12 : decode cX11_ofLife 12 = .ok (.iload_n 2, 1) := by decide +kernel
theorem dX11_ofLife_13 : decode cX11_ofLife 13 = .ok (.iload_n 3, 1) := by decide +kernel
theorem dX11_ofLife_14 : decode cX11_ofLife 14 = .ok (.iload 4, 2) := by decide +kernel
theorem dX11_ofLife_16 : decode cX11_ofLife 16 = .ok (.invokestatic 106, 3) := by decide +kernel
theorem dX11_ofLife_19 : decode cX11_ofLife 19 = .ok (.aload_n 0, 1) := by decide +kernel
theorem dX11_ofLife_20 : decode cX11_ofLife 20 = .ok (.invokevirtual 395, 3) := by decide +kernel
theorem dX11_ofLife_23 : decode cX11_ofLife 23 = .ok (.invokestatic 140, 3) := by decide +kernel
theorem dX11_ofLife_26 : decode cX11_ofLife 26 = .ok (.invokestatic 140, 3) := by decide +kernel
theorem dX11_ofLife_29 : decode cX11_ofLife 29 = .ok (.invokestatic 140, 3) := by decide +kernel
theorem dX11_ofLife_32 : decode cX11_ofLife 32 = .ok (.ireturn, 1) := by decide +kernel
theorem dX11_ofNearly_0 : decode cX11_ofNearly 0 = .ok (.aload_n 0, 1) := by decide +kernel
theorem dX11_ofNearly_1 : decode cX11_ofNearly 1 = .ok (.invokevirtual 202, 3) := by decide +kernel
theorem dX11_ofNearly_4 : decode cX11_ofNearly 4 = .ok (.aload_n 0, 1) := by decide +kernel
theorem dX11_ofNearly_5 : decode cX11_ofNearly 5 = .ok (.getfield 32, 3) := by decide +kernel
theorem dX11_ofNearly_8 : decode cX11_ofNearly 8 = .ok (.getfield 129, 3) := by decide +kernel
theorem dX11_ofNearly_11 : decode cX11_ofNearly 11 = .ok (.bipush 6, 2) := by decide +kernel
theorem dX11_ofNearly_13 : decode cX11_ofNearly 13 = .ok (.iaload, 1) := by decide +kernel
theorem dX11_ofNearly_14 : decode cX11_ofNearly 14 = .ok (.ifCond .ne 8, 3) := by decide +kernel
theorem dX11_ofNearly_17 : decode cX11_ofNearly 17 = .ok (.bipush 6, 2) := by decide +kernel
theorem dX11_ofNearly_19 : decode cX11_ofNearly 19 = .ok (.goto 4, 3) := by decide +kernel
theorem dX11_ofNearly_22 : decode cX11_ofNearly 22 = .ok (.iconst 0, 1) := by decide +kernel
theorem dX11_ofNearly_23 : decode cX11_ofNearly 23 = .ok (.invokestatic 140, 3) := by decide +kernel
theorem dX11_ofNearly_26 : decode cX11_ofNearly 26 = .ok (.ireturn, 1) := by decide +kernel
theorem dX11_ofSailing_0 : decode cX11_ofSailing 0 = .ok (.aload_n 0, 1) := by decide +kernel
theorem dX11_ofSailing_1 : decode cX11_ofSailing 1 = .ok (.iload_n 1, 1) := by decide +kernel
theorem dX11_ofSailing_2 : decode cX11_ofSailing 2 = .ok (.invokevirtual 133, 3) := by decide +kernel
theorem dX11_ofSailing_5 : decode cX11_ofSailing 5 = .ok (.ifCond .eq 5, 3) := by decide +kernel
theorem dX11_ofSailing_8 : decode cX11_ofSailing 8 = .ok (.iconst 1, 1) := by decide +kernel
theorem dX11_ofSailing_9 : decode cX11_ofSailing 9 = .ok (.ireturn, 1) := by decide +kernel
theorem dX11_ofSailing_10 : decode cX11_ofSailing 10 = .ok (.aload_n 0, 1) := by decide +kernel
theorem dX11_ofSailing_11 : decode cX11_ofSailing 11 = .ok (.getfield 39, 3) := by decide +kernel
theorem dX11_ofSailing_14 : decode cX11_ofSailing 14 = .ok (.invokevirtual 331, 3) := by decide +kernel
theorem dX11_ofSailing_17 : decode cX11_ofSailing 17 = .ok (.ifCond .ne 21, 3) := by decide +kernel
theorem dX11_ofSailing_20 : decode cX11_ofSailing 20 = .ok (.aload_n 0, 1) := by decide +kernel
theorem dX11_ofSailing_21 : decode cX11_ofSailing 21 = .ok (.getfield 32, 3) := by decide +kernel
theorem dX11_ofSailing_24 : decode cX11_ofSailing 24 = .ok (.aload_n 0, 1) := by decide +kernel
theorem dX11_ofSailing_25 : decode cX11_ofSailing 25 = .ok (.getfield 39, 3) := by decide +kernel
theorem dX11_ofSailing_28 : decode cX11_ofSailing 28 = .ok (.getfield 389, 3) := by decide +kernel
theorem dX11_ofSailing_31 : decode cX11_ofSailing 31 = .ok (.iload_n 1, 1) := by decide +kernel
theorem dX11_ofSailing_32 : decode cX11_ofSailing 32 = .ok (.invokevirtual 398, 3) := by decide +kernel
theorem dX11_ofSailing_35 : decode cX11_ofSailing 35 = .ok (.ifCond .ne 5, 3) := by decide +kernel
theorem dX11_ofSailing_38 : decode cX11_ofSailing 38 = .ok (.iconst 5, 1) := by decide +kernel
theorem dX11_ofSailing_39 : decode cX11_ofSailing 39 = .ok (.ireturn, 1) := by decide +kernel
theorem dX11_ofSailing_40 : decode cX11_ofSailing 40 = .ok (.aload_n 0, 1) := by decide +kernel
theorem dX11_ofSailing_41 : decode cX11_ofSailing 41 = .ok (.getfield 39, 3) := by decide +kernel
theorem dX11_ofSailing_44 : decode cX11_ofSailing 44 = .ok (.getfield 346, 3) := by decide +kernel
theorem dX11_ofSailing_47 : decode cX11_ofSailing 47 = .ok (.bipush 30, 2) := by decide +kernel
theorem dX11_ofSailing_49 : decode cX11_ofSailing 49 = .ok (.if_icmp .lt 7, 3) := by decide +kernel
theorem dX11_ofSailing_52 : decode cX11_ofSailing 52 = .ok (.iconst 3, 1) := by decide +kernel
theorem dX11_ofSailing_53 : decode cX11_ofSailing 53 = .ok (.goto 4, 3) := by decide +kernel
theorem dX11_ofSailing_56 : decode cX11_ofSailing 56 = .ok (.iconst 0, 1) := by decide +kernel
theorem dX11_ofSailing_57 : decode cX11_ofSailing 57 = .ok (.ireturn, 1) := by decide +kernel
theorem dX11_ofCourting_0 : decode cX11_ofCourting 0 = .ok (.aload_n 0, 1) := by decide +kernel
theorem dX11_ofCourting_1 : decode cX11_ofCourting 1 = .ok (.iload_n 1, 1) := by decide +kernel
theorem dX11_ofCourting_2 : decode cX11_ofCourting 2 = .ok (.invokevirtual 155, 3) := by decide +kernel
theorem dX11_ofCourting_5 : decode cX11_ofCourting 5 = .ok (.ifCond .eq 5, 3) := by decide +kernel
theorem dX11_ofCourting_8 : decode cX11_ofCourting 8 = .ok (.iconst 1, 1) := by decide +kernel
theorem dX11_ofCourting_9 : decode cX11_ofCourting 9 = .ok (.ireturn, 1) := by decide +kernel
theorem dX11_ofCourting_10 : decode cX11_ofCourting 10 = .ok (.aload_n 0, 1) := by decide +kernel
theorem dX11_ofCourting_11 : decode cX11_ofCourting 11 = .ok (.getfield 39, 3) := by decide +kernel
theorem dX11_ofCourting_14 : decode cX11_ofCourting 14 = .ok (.invokevirtual 331, 3) := by decide +kernel
theorem dX11_ofCourting_17 : decode cX11_ofCourting 17 = .ok (.ifCond .ne 37, 3) := by decide +kernel
theorem dX11_ofCourting_20 : decode cX11_ofCourting 20 = .ok (.aload_n 0, 1) := by decide +kernel
theorem dX11_ofCourting_21 : decode cX11_ofCourting 21 = .ok (.getfield 32, 3) := by decide +kernel
theorem dX11_ofCourting_24 : decode cX11_ofCourting 24 = .ok (.getfield 161, 3) := by decide +kernel
theorem dX11_ofCourting_27 : decode cX11_ofCourting 27 = .ok (.iload_n 1, 1) := by decide +kernel
theorem dX11_ofCourting_28 : decode cX11_ofCourting 28 = .ok (.iaload, 1) := by decide +kernel
theorem dX11_ofCourting_29 : decode cX11_ofCourting 29 = .ok (.aload_n 0, 1) := by decide +kernel
theorem dX11_ofCourting_30 : decode cX11_ofCourting 30 = .ok (.getfield 39, 3) := by decide +kernel
theorem dX11_ofCourting_33 : decode cX11_ofCourting 33 = .ok (.getfield 389, 3) := by decide +kernel
theorem dX11_ofCourting_36 : decode cX11_ofCourting 36 = .ok (.if_icmp .ne 18, 3) := by decide +kernel
theorem dX11_ofCourting_39 : decode cX11_ofCourting 39 = .ok (.aload_n 0, 1) := by decide +kernel
theorem dX11_ofCourting_40 : decode cX11_ofCourting 40 = .ok (.getfield 39, 3) := by decide +kernel
theorem dX11_ofCourting_43 : decode cX11_ofCourting 43 = .ok (.iload_n 1, 1) := by decide +kernel
theorem dX11_ofCourting_44 : decode cX11_ofCourting 44 = .ok (.invokevirtual 173, 3) := by decide +kernel
theorem dX11_ofCourting_47 : decode cX11_ofCourting 47 = .ok (.ifCond .ne 7, 3) := by decide +kernel
theorem dX11_ofCourting_50 : decode cX11_ofCourting 50 = .ok (.iconst 1, 1) := by decide +kernel
theorem dX11_ofCourting_51 : decode cX11_ofCourting 51 = .ok (.goto 4, 3) := by decide +kernel
theorem dX11_ofCourting_54 : decode cX11_ofCourting 54 = .ok (.iconst 0, 1) := by decide +kernel
theorem dX11_ofCourting_55 : decode cX11_ofCourting 55 = .ok (.istore_n 2, 1) := by decide +kernel
theorem dX11_ofCourting_56 : decode cX11_ofCourting 56 = .ok (.iload_n 2, 1) := by decide +kernel
theorem dX11_ofCourting_57 : decode cX11_ofCourting 57 = .ok (.ifCond .eq 7, 3) := by decide +kernel
theorem dX11_ofCourting_60 : decode cX11_ofCourting 60 = .ok (.iconst 0, 1) := by decide +kernel
theorem dX11_ofCourting_61 : decode cX11_ofCourting 61 = .ok (.goto 4, 3) := by decide +kernel
theorem dX11_ofCourting_64 : decode cX11_ofCourting 64 = .ok (.iconst 5, 1) := by decide +kernel
theorem dX11_ofCourting_65 : decode cX11_ofCourting 65 = .ok (.ireturn, 1) := by decide +kernel
theorem dX11_soonestIn_0 : decode cX11_soonestIn 0 = .ok (.aload_n 0, 1) := by decide +kernel
theorem dX11_soonestIn_1 : decode cX11_soonestIn 1 = .ok (.getfield 32, 3) := by decide +kernel
theorem dX11_soonestIn_4 : decode cX11_soonestIn 4 = .ok (.aload_n 0, 1) := by decide +kernel
theorem dX11_soonestIn_5 : decode cX11_soonestIn 5 = .ok (.getfield 39, 3) := by decide +kernel
theorem dX11_soonestIn_8 : decode cX11_soonestIn 8 = .ok (.getfield 389, 3) := by decide +kernel
theorem dX11_soonestIn_11 : decode cX11_soonestIn 11 = .ok (.iload_n 1, 1) := by decide +kernel
theorem dX11_soonestIn_12 : decode cX11_soonestIn 12 = .ok (.invokevirtual 209, 3) := by decide +kernel
theorem dX11_soonestIn_15 : decode cX11_soonestIn 15 = .ok (.istore_n 2, 1) := by decide +kernel
theorem dX11_soonestIn_16 : decode cX11_soonestIn 16 = .ok (.aload_n 0, 1) := by decide +kernel
theorem dX11_soonestIn_17 : decode cX11_soonestIn 17 = .ok (.getfield 39, 3) := by decide +kernel
theorem dX11_soonestIn_20 : decode cX11_soonestIn 20 = .ok (.invokevirtual 331, 3) := by decide +kernel
theorem dX11_soonestIn_23 : decode cX11_soonestIn 23 = .ok (.ifCond .ne 9, 3) := by decide +kernel
theorem dX11_soonestIn_26 : decode cX11_soonestIn 26 = .ok (.iload_n 2, 1) := by decide +kernel
theorem dX11_soonestIn_27 : decode cX11_soonestIn 27 = .ok (.bipush (-2), 2) := by decide +kernel
theorem dX11_soonestIn_29 : decode cX11_soonestIn 29 = .ok (.if_icmp .ne 6, 3) := by decide +kernel
theorem dX11_soonestIn_32 : decode cX11_soonestIn 32 = .ok (.bipush (-2), 2) := by decide +kernel
theorem dX11_soonestIn_34 : decode cX11_soonestIn 34 = .ok (.ireturn, 1) := by decide +kernel
theorem dX11_soonestIn_35 : decode cX11_soonestIn 35 = .ok (.aload_n 0, 1) := by decide +kernel
theorem dX11_soonestIn_36 : decode cX11_soonestIn 36 = .ok (.getfield 39, 3) := by decide +kernel
theorem dX11_soonestIn_39 : decode cX11_soonestIn 39 = .ok (.getfield 346, 3) := by decide +kernel
theorem dX11_soonestIn_42 : decode cX11_soonestIn 42 = .ok (.iconst 1, 1) := by decide +kernel
theorem dX11_soonestIn_43 : decode cX11_soonestIn 43 = .ok (.iload_n 2, 1) := by decide +kernel
theorem dX11_soonestIn_44 : decode cX11_soonestIn 44 = .ok (.invokestatic 401, 3) := by decide +kernel
theorem dX11_soonestIn_47 : decode cX11_soonestIn 47 = .ok (.iadd, 1) := by decide +kernel
theorem dX11_soonestIn_48 : decode cX11_soonestIn 48 = .ok (.ireturn, 1) := by decide +kernel
theorem dX11_inLowestTerms_0 : decode cX11_inLowestTerms 0 = .ok (.lload_n 2, 1) := by decide +kernel
theorem dX11_inLowestTerms_1 : decode cX11_inLowestTerms 1 = .ok (.lstore 5, 2) := by decide +kernel
theorem dX11_inLowestTerms_3 : decode cX11_inLowestTerms 3 = .ok (.lload_n 0, 1) := by decide +kernel
theorem dX11_inLowestTerms_4 : decode cX11_inLowestTerms 4 = .ok (.lstore 7, 2) := by decide +kernel
theorem dX11_inLowestTerms_6 : decode cX11_inLowestTerms 6 = .ok (.iconst 0, 1) := by decide +kernel
theorem dX11_inLowestTerms_7 : decode cX11_inLowestTerms 7 = .ok (.istore 9, 2) := by decide +kernel
theorem dX11_inLowestTerms_9 : decode cX11_inLowestTerms 9 = .ok (.iload 9, 2) := by decide +kernel
theorem dX11_inLowestTerms_11 : decode cX11_inLowestTerms 11 = .ok (.bipush 100, 2) := by decide +kernel
theorem dX11_inLowestTerms_13 : decode cX11_inLowestTerms 13 = .ok (.if_icmp .ge 31, 3) := by decide +kernel
theorem dX11_inLowestTerms_16 : decode cX11_inLowestTerms 16 = .ok (.lload 7, 2) := by decide +kernel
theorem dX11_inLowestTerms_18 : decode cX11_inLowestTerms 18 = .ok (.lconst 0, 1) := by decide +kernel
theorem dX11_inLowestTerms_19 : decode cX11_inLowestTerms 19 = .ok (.lcmp, 1) := by decide +kernel
theorem dX11_inLowestTerms_20 : decode cX11_inLowestTerms 20 = .ok (.ifCond .eq 24, 3) := by decide +kernel
theorem dX11_inLowestTerms_23 : decode cX11_inLowestTerms 23 = .ok (.lload 5, 2) := by decide +kernel
theorem dX11_inLowestTerms_25 : decode cX11_inLowestTerms 25 = .ok (.lload 7, 2) := by decide +kernel
theorem dX11_inLowestTerms_27 : decode cX11_inLowestTerms 27 = .ok (.lrem, 1) := by decide +kernel
theorem dX11_inLowestTerms_28 : decode cX11_inLowestTerms 28 = .ok (.lstore 10, 2) := by decide +kernel
theorem dX11_inLowestTerms_30 : decode cX11_inLowestTerms 30 = .ok (.lload 7, 2) := by decide +kernel
theorem dX11_inLowestTerms_32 : decode cX11_inLowestTerms 32 = .ok (.lstore 5, 2) := by decide +kernel
theorem dX11_inLowestTerms_34 : decode cX11_inLowestTerms 34 = .ok (.lload 10, 2) := by decide +kernel
theorem dX11_inLowestTerms_36 : decode cX11_inLowestTerms 36 = .ok (.lstore 7, 2) := by decide +kernel
theorem dX11_inLowestTerms_38 : decode cX11_inLowestTerms 38 = .ok (.iinc 9 1, 3) := by decide +kernel
theorem dX11_inLowestTerms_41 : decode cX11_inLowestTerms 41 = .ok (.goto (-32), 3) := by decide +kernel
theorem dX11_inLowestTerms_44 : decode cX11_inLowestTerms 44 = .ok (.iload 4, 2) := by decide +kernel
theorem dX11_inLowestTerms_46 : decode cX11_inLowestTerms 46 = .ok (.ifCond .eq 7, 3) := by decide +kernel
theorem dX11_inLowestTerms_49 : decode cX11_inLowestTerms 49 = .ok (.lload_n 2, 1) := by decide +kernel
theorem dX11_inLowestTerms_50 : decode cX11_inLowestTerms 50 = .ok (.goto 4, 3) := by decide +kernel
theorem dX11_inLowestTerms_53 : decode cX11_inLowestTerms 53 = .ok (.lload_n 0, 1) := by decide +kernel
theorem dX11_inLowestTerms_54 : decode cX11_inLowestTerms 54 = .ok (.lstore 9, 2) := by decide +kernel
theorem dX11_inLowestTerms_56 : decode cX11_inLowestTerms 56 = .ok (.lload 5, 2) := by decide +kernel
theorem dX11_inLowestTerms_58 : decode cX11_inLowestTerms 58 = .ok (.lconst 0, 1) := by decide +kernel
theorem dX11_inLowestTerms_59 : decode cX11_inLowestTerms 59 = .ok (.lcmp, 1) := by decide +kernel
theorem dX11_inLowestTerms_60 : decode cX11_inLowestTerms 60 = .ok (.ifCond .ne 8, 3) := by decide +kernel
theorem dX11_inLowestTerms_63 : decode cX11_inLowestTerms 63 = .ok (.lload 9, 2) := by decide +kernel
theorem dX11_inLowestTerms_65 : decode cX11_inLowestTerms 65 = .ok (.goto 8, 3) := by decide +kernel
theorem dX11_inLowestTerms_68 : decode cX11_inLowestTerms 68 = .ok (.lload 9, 2) := by decide +kernel
theorem dX11_inLowestTerms_70 : decode cX11_inLowestTerms 70 = .ok (.lload 5, 2) := by decide +kernel
theorem dX11_inLowestTerms_72 : decode cX11_inLowestTerms 72 = .ok (.ldiv, 1) := by decide +kernel
theorem dX11_inLowestTerms_73 : decode cX11_inLowestTerms 73 = .ok (.lreturn, 1) := by decide +kernel
theorem dX12_init_0 : decode cX12_init 0 = .ok (.aload_n 0, 1) := by decide +kernel
theorem dX12_init_1 : decode cX12_init 1 = .ok (.invokespecial 1, 3) := by decide +kernel
theorem dX12_init_4 : decode cX12_init 4 = .ok (.aload_n 0, 1) := by decide +kernel
theorem dX12_init_5 : decode cX12_init 5 = .ok (.sipush 900, 3) := by decide +kernel
theorem dX12_init_8 : decode cX12_init 8 = .ok (.newarray .int, 2) := by decide +kernel
theorem dX12_init_10 : decode cX12_init 10 = .ok (.putfield 7, 3) := by decide +kernel
theorem dX12_init_13 : decode cX12_init 13 = .ok (.aload_n 0, 1) := by decide +kernel
theorem dX12_init_14 : decode cX12_init 14 = .ok (.iconst (-1), 1) := by decide +kernel
theorem dX12_init_15 : decode cX12_init 15 = .ok (.putfield 13, 3) := by decide +kernel
theorem dX12_init_18 : decode cX12_init 18 = .ok (.aload_n 0, 1) := by decide +kernel
theorem dX12_init_19 : decode cX12_init 19 = .ok (.bipush 8, 2) := by decide +kernel
theorem dX12_init_21 : decode cX12_init 21 = .ok (.newarray .int, 2) := by decide +kernel
theorem dX12_init_23 : decode cX12_init 23 = .ok (.putfield 17, 3) := by decide +kernel
theorem dX12_init_26 : decode cX12_init 26 = .ok (.aload_n 0, 1) := by decide +kernel
theorem dX12_init_27 : decode cX12_init 27 = .ok (.sipush 276, 3) := by decide +kernel
theorem dX12_init_30 : decode cX12_init 30 = .ok (.newarray .int, 2) := by decide +kernel
theorem dX12_init_32 : decode cX12_init 32 = .ok (.putfield 20, 3) := by decide +kernel
theorem dX12_init_35 : decode cX12_init 35 = .ok (.aload_n 0, 1) := by decide +kernel
theorem dX12_init_36 : decode cX12_init 36 = .ok (.sipush 276, 3) := by decide +kernel
theorem dX12_init_39 : decode cX12_init 39 = .ok (.newarray .int, 2) := by decide +kernel
theorem dX12_init_41 : decode cX12_init 41 = .ok (.putfield 23, 3) := by decide +kernel
theorem dX12_init_44 : decode cX12_init 44 = .ok (.aload_n 0, 1) := by decide +kernel
theorem dX12_init_45 : decode cX12_init 45 = .ok (.bipush 6, 2) := by decide +kernel
theorem dX12_init_47 : decode cX12_init 47 = .ok (.newarray .int, 2) := by decide +kernel
theorem dX12_init_49 : decode cX12_init 49 = .ok (.putfield 26, 3) := by decide +kernel
theorem dX12_init_52 : decode cX12_init 52 = .ok (.aload_n 0, 1) := by decide +kernel
theorem dX12_init_53 : decode cX12_init 53 = .ok (.bipush 96, 2) := by decide +kernel
theorem dX12_init_55 : decode cX12_init 55 = .ok (.newarray .int, 2) := by decide +kernel
theorem dX12_init_57 : decode cX12_init 57 = .ok (.putfield 29, 3) := by decide +kernel
theorem dX12_init_60 : decode cX12_init 60 = .ok (.aload_n 0, 1) := by decide +kernel
theorem dX12_init_61 : decode cX12_init 61 = .ok (.bipush 18, 2) := by decide +kernel
theorem dX12_init_63 : decode cX12_init 63 = .ok (.newarray .int, 2) := by decide +kernel
theorem dX12_init_65 : decode cX12_init 65 = .ok (.putfield 32, 3) := by decide +kernel
theorem dX12_init_68 : decode cX12_init 68 = .ok (.aload_n 0, 1) := by decide +kernel
theorem dX12_init_69 : decode cX12_init 69 = .ok (.iconst 3, 1) := by decide +kernel
theorem dX12_init_70 : decode cX12_init 70 = .ok (.newarray .int, 2) := by decide +kernel
theorem dX12_init_72 : decode cX12_init 72 = .ok (.putfield 35, 3) := by decide +kernel
theorem dX12_init_75 : decode cX12_init 75 = .ok (.aload_n 0, 1) := by decide +kernel
theorem dX12_init_76 : decode cX12_init 76 = .ok (.iconst 3, 1) := by decide +kernel
theorem dX12_init_77 : decode cX12_init 77 = .ok (.newarray .int, 2) := by decide +kernel
theorem dX12_init_79 : decode cX12_init 79 = .ok (.putfield 38, 3) := by decide +kernel
theorem dX12_init_82 : decode cX12_init 82 = .ok (.aload_n 0, 1) := by decide +kernel
theorem dX12_init_83 : decode cX12_init 83 = .ok (.iconst 5, 1) := by decide +kernel
theorem dX12_init_84 : decode cX12_init 84 = .ok (.newarray .int, 2) := by decide +kernel
theorem dX12_init_86 : decode cX12_init 86 = .ok (.putfield 41, 3) := by decide +kernel
theorem dX12_init_89 : decode cX12_init 89 = .ok (.aload_n 0, 1) := by decide +kernel
theorem dX12_init_90 : decode cX12_init 90 = .ok (.iconst 5, 1) := by decide +kernel
theorem dX12_init_91 : decode cX12_init 91 = .ok (.newarray .int, 2) := by decide +kernel
theorem dX12_init_93 : decode cX12_init 93 = .ok (.putfield 44, 3) := by decide +kernel
theorem dX12_init_96 : decode cX12_init 96 = .ok (.aload_n 0, 1) := by decide +kernel
theorem dX12_init_97 : decode cX12_init 97 = .ok (.iconst 5, 1) := by decide +kernel
theorem dX12_init_98 : decode cX12_init 98 = .ok (.newarray .int, 2) := by decide +kernel
theorem dX12_init_100 : decode cX12_init 100 = .ok (.putfield 47, 3) := by decide +kernel
theorem dX12_init_103 : decode cX12_init 103 = .ok (.aload_n 0, 1) := by decide +kernel
theorem dX12_init_104 : decode cX12_init 104 = .ok (.iconst 4, 1) := by decide +kernel
theorem dX12_init_105 : decode cX12_init 105 = .ok (.newarray .int, 2) := by decide +kernel
theorem dX12_init_107 : decode cX12_init 107 = .ok (.putfield 50, 3) := by decide +kernel
theorem dX12_init_110 : decode cX12_init 110 = .ok (.aload_n 0, 1) := by decide +kernel
theorem dX12_init_111 : decode cX12_init 111 = .ok (.iconst 4, 1) := by decide +kernel
theorem dX12_init_112 : decode cX12_init 112 = .ok (.newarray .int, 2) := by decide +kernel
theorem dX12_init_114 : decode cX12_init 114 = .ok (.putfield 53, 3) := by decide +kernel
theorem dX12_init_117 : decode cX12_init 117 = .ok (.aload_n 0, 1) := by decide +kernel
theorem dX12_init_118 : decode cX12_init 118 = .ok (.bipush 32, 2) := by decide +kernel
theorem dX12_init_120 : decode cX12_init 120 = .ok (.newarray .int, 2) := by decide +kernel
theorem dX12_init_122 : decode cX12_init 122 = .ok (.putfield 56, 3) := by decide +kernel
theorem dX12_init_125 : decode cX12_init 125 = .ok (.return_, 1) := by decide +kernel
theorem dX12_thrown_0 : decode cX12_thrown 0 = .ok (.aload_n 0, 1) := by decide +kernel
theorem dX12_thrown_1 : decode cX12_thrown 1 = .ok (.getfield 59, 3) := by decide +kernel
theorem dX12_thrown_4 : decode cX12_thrown 4 = .ok (.ireturn, 1) := by decide +kernel
theorem dX12_good_0 : decode cX12_good 0 = .ok (.aload_n 0, 1) := by decide +kernel
theorem dX12_good_1 : decode cX12_good 1 = .ok (.iconst 0, 1) := by decide +kernel
theorem dX12_good_2 : decode cX12_good 2 = .ok (.putfield 59, 3) := by decide +kernel
theorem dX12_good_5 : decode cX12_good 5 = .ok (.aload_n 0, 1) := by decide +kernel
theorem dX12_good_6 : decode cX12_good 6 = .ok (.iconst 0, 1) := by decide +kernel
theorem dX12_good_7 : decode cX12_good 7 = .ok (.putfield 62, 3) := by decide +kernel
theorem dX12_good_10 : decode cX12_good 10 = .ok (.return_, 1) := by decide +kernel
theorem dX12_no_0 : decode cX12_no 0 = .ok (.aload_n 0, 1) := by decide +kernel
theorem dX12_no_1 : decode cX12_no 1 = .ok (.iload_n 1, 1) := by decide +kernel
theorem dX12_no_2 : decode cX12_no 2 = .ok (.putfield 62, 3) := by decide +kernel
theorem dX12_no_5 : decode cX12_no 5 = .ok (.iconst (-1), 1) := by decide +kernel
theorem dX12_no_6 : decode cX12_no 6 = .ok (.ireturn, 1) := by decide +kernel
theorem dX12_isNot_0 : decode cX12_isNot 0 = .ok (.aload_n 0, 1) := by decide +kernel
theorem dX12_isNot_1 : decode cX12_isNot 1 = .ok (.iload_n 1, 1) := by decide +kernel
theorem dX12_isNot_2 : decode cX12_isNot 2 = .ok (.putfield 62, 3) := by decide +kernel
theorem dX12_isNot_5 : decode cX12_isNot 5 = .ok (.iconst 0, 1) := by decide +kernel
theorem dX12_isNot_6 : decode cX12_isNot 6 = .ok (.ireturn, 1) := by decide +kernel
theorem dX12_in_0 : decode cX12_in 0 = .ok (.iload_n 0, 1) := by decide +kernel
theorem dX12_in_1 : decode cX12_in 1 = .ok (.iload_n 1, 1) := by decide +kernel
theorem dX12_in_2 : decode cX12_in 2 = .ok (.if_icmp .lt 12, 3) := by decide +kernel
theorem dX12_in_5 : decode cX12_in 5 = .ok (.iload_n 0, 1) := by decide +kernel
theorem dX12_in_6 : decode cX12_in 6 = .ok (.iload_n 2, 1) := by decide +kernel
theorem dX12_in_7 : decode cX12_in 7 = .ok (.if_icmp .gt 7, 3) := by decide +kernel
theorem dX12_in_10 : decode cX12_in 10 = .ok (.iconst 1, 1) := by decide +kernel
theorem dX12_in_11 : decode cX12_in 11 = .ok (.goto 4, 3) := by decide +kernel
theorem dX12_in_14 : decode cX12_in 14 = .ok (.iconst 0, 1) := by decide +kernel
theorem dX12_in_15 : decode cX12_in 15 = .ok (.ireturn, 1) := by decide +kernel
theorem dX12_hasBit_0 : decode cX12_hasBit 0 = .ok (.iload_n 0, 1) := by decide +kernel
theorem dX12_hasBit_1 : decode cX12_hasBit 1 = .ok (.iload_n 1, 1) := by decide +kernel
theorem dX12_hasBit_2 : decode cX12_hasBit 2 = .ok (.ishr, 1) := by decide +kernel
theorem dX12_hasBit_3 : decode cX12_hasBit 3 = .ok (.iconst 1, 1) := by decide +kernel
theorem dX12_hasBit_4 : decode cX12_hasBit 4 = .ok (.iand, 1) := by decide +kernel
theorem dX12_hasBit_5 : decode cX12_hasBit 5 = .ok (.iconst 1, 1) := by decide +kernel
theorem dX12_hasBit_6 : decode cX12_hasBit 6 = .ok (.if_icmp .ne 7, 3) := by decide +kernel
theorem dX12_hasBit_9 : decode cX12_hasBit 9 = .ok (.iconst 1, 1) := by decide +kernel
theorem dX12_hasBit_10 : decode cX12_hasBit 10 = .ok (.goto 4, 3) := by decide +kernel
theorem dX12_hasBit_13 : decode cX12_hasBit 13 = .ok (.iconst 0, 1) := by decide +kernel
theorem dX12_hasBit_14 : decode cX12_hasBit 14 = .ok (.ireturn, 1) := by decide +kernel
theorem dX12_ones_0 : decode cX12_ones 0 = .ok (.iconst 0, 1) := by decide +kernel
theorem dX12_ones_1 : decode cX12_ones 1 = .ok (.istore_n 1, 1) := by decide +kernel
theorem dX12_ones_2 : decode cX12_ones 2 = .ok (.iconst 0, 1) := by decide +kernel
theorem dX12_ones_3 : decode cX12_ones 3 = .ok (.istore_n 2, 1) := by decide +kernel
theorem dX12_ones_4 : decode cX12_ones 4 = .ok (.iload_n 2, 1) := by decide +kernel
theorem dX12_ones_5 : decode cX12_ones 5 = .ok (.bipush 8, 2) := by decide +kernel
theorem dX12_ones_7 : decode cX12_ones 7 = .ok (.if_icmp .ge 17, 3) := by decide +kernel
theorem dX12_ones_10 : decode cX12_ones 10 = .ok (.iload_n 1, 1) := by decide +kernel
theorem dX12_ones_11 : decode cX12_ones 11 = .ok (.iload_n 0, 1) := by decide +kernel
theorem dX12_ones_12 : decode cX12_ones 12 = .ok (.iload_n 2, 1) := by decide +kernel
theorem dX12_ones_13 : decode cX12_ones 13 = .ok (.ishr, 1) := by decide +kernel
theorem dX12_ones_14 : decode cX12_ones 14 = .ok (.iconst 1, 1) := by decide +kernel
theorem dX12_ones_15 : decode cX12_ones 15 = .ok (.iand, 1) := by decide +kernel
theorem dX12_ones_16 : decode cX12_ones 16 = .ok (.iadd, 1) := by decide +kernel
theorem dX12_ones_17 : decode cX12_ones 17 = .ok (.istore_n 1, 1) := by decide +kernel
theorem dX12_ones_18 : decode cX12_ones 18 = .ok (.iinc 2 1, 3) := by decide +kernel
theorem dX12_ones_21 : decode cX12_ones 21 = .ok (.goto (-17), 3) := by decide +kernel
theorem dX12_ones_24 : decode cX12_ones 24 = .ok (.iload_n 1, 1) := by decide +kernel
theorem dX12_ones_25 : decode cX12_ones 25 = .ok (.ireturn, 1) := by decide +kernel
theorem dX12_copy_0 : decode cX12_copy 0 = .ok (.iconst 0, 1) := by decide +kernel
theorem dX12_copy_1 : decode cX12_copy 1 = .ok (.istore 5, 2) := by decide +kernel
theorem dX12_copy_3 : decode cX12_copy 3 = .ok (.iload 5, 2) := by decide +kernel
theorem dX12_copy_5 : decode cX12_copy 5 = .ok (.iload 4, 2) := by decide +kernel
theorem dX12_copy_7 : decode cX12_copy 7 = .ok (.if_icmp .ge 21, 3) := by decide +kernel
theorem dX12_copy_10 : decode cX12_copy 10 = .ok (.aload_n 2, 1) := by decide +kernel
theorem dX12_copy_11 : decode cX12_copy 11 = .ok (.iload_n 3, 1) := by decide +kernel
theorem dX12_copy_12 : decode cX12_copy 12 = .ok (.iload 5, 2) := by decide +kernel
theorem dX12_copy_14 : decode cX12_copy 14 = .ok (.iadd, 1) := by decide +kernel
theorem dX12_copy_15 : decode cX12_copy 15 = .ok (.aload_n 0, 1) := by decide +kernel
theorem dX12_copy_16 : decode cX12_copy 16 = .ok (.iload_n 1, 1) := by decide +kernel
theorem dX12_copy_17 : decode cX12_copy 17 = .ok (.iload 5, 2) := by decide +kernel
theorem dX12_copy_19 : decode cX12_copy 19 = .ok (.iadd, 1) := by decide +kernel
theorem dX12_copy_20 : decode cX12_copy 20 = .ok (.iaload, 1) := by decide +kernel
theorem dX12_copy_21 : decode cX12_copy 21 = .ok (.iastore, 1) := by decide +kernel
theorem dX12_copy_22 : decode cX12_copy 22 = .ok (.iinc 5 1, 3) := by decide +kernel
theorem dX12_copy_25 : decode cX12_copy 25 = .ok (.goto (-22), 3) := by decide +kernel
theorem dX12_copy_28 : decode cX12_copy 28 = .ok (.return_, 1) := by decide +kernel
theorem dX12_lowest_0 : decode cX12_lowest 0 = .ok (.lload_n 2, 1) := by decide +kernel
theorem dX12_lowest_1 : decode cX12_lowest 1 = .ok (.lstore 5, 2) := by decide +kernel
theorem dX12_lowest_3 : decode cX12_lowest 3 = .ok (.lload_n 0, 1) := by decide +kernel
theorem dX12_lowest_4 : decode cX12_lowest 4 = .ok (.lstore 7, 2) := by decide +kernel
theorem dX12_lowest_6 : decode cX12_lowest 6 = .ok (.lload 7, 2) := by decide +kernel
theorem dX12_lowest_8 : decode cX12_lowest 8 = .ok (.lconst 0, 1) := by decide +kernel
theorem dX12_lowest_9 : decode cX12_lowest 9 = .ok (.lcmp, 1) := by decide +kernel
theorem dX12_lowest_10 : decode cX12_lowest 10 = .ok (.ifCond .eq 21, 3) := by decide +kernel
theorem dX12_lowest_13 : decode cX12_lowest 13 = .ok (.lload 5, 2) := by decide +kernel
theorem dX12_lowest_15 : decode cX12_lowest 15 = .ok (.lload 7, 2) := by decide +kernel
theorem dX12_lowest_17 : decode cX12_lowest 17 = .ok (.lrem, 1) := by decide +kernel
theorem dX12_lowest_18 : decode cX12_lowest 18 = .ok (.lstore 9, 2) := by decide +kernel
theorem dX12_lowest_20 : decode cX12_lowest 20 = .ok (.lload 7, 2) := by decide +kernel
theorem dX12_lowest_22 : decode cX12_lowest 22 = .ok (.lstore 5, 2) := by decide +kernel
theorem dX12_lowest_24 : decode cX12_lowest 24 = .ok (.lload 9, 2) := by decide +kernel
theorem dX12_lowest_26 : decode cX12_lowest 26 = .ok (.lstore 7, 2) := by decide +kernel
theorem dX12_lowest_28 : decode cX12_lowest 28 = .ok (.goto (-22), 3) := by decide +kernel
theorem dX12_lowest_31 : decode cX12_lowest 31 = .ok (.iload 4, 2) := by decide +kernel
theorem dX12_lowest_33 : decode cX12_lowest 33 = .ok (.ifCond .eq 7, 3) := by decide +kernel
theorem dX12_lowest_36 : decode cX12_lowest 36 = .ok (.lload_n 2, 1) := by decide +kernel
theorem dX12_lowest_37 : decode cX12_lowest 37 = .ok (.goto 4, 3) := by decide +kernel
theorem dX12_lowest_40 : decode cX12_lowest 40 = .ok (.lload_n 0, 1) := by decide +kernel
theorem dX12_lowest_41 : decode cX12_lowest 41 = .ok (.lload 5, 2) := by decide +kernel
theorem dX12_lowest_43 : decode cX12_lowest 43 = .ok (.ldiv, 1) := by decide +kernel
theorem dX12_lowest_44 : decode cX12_lowest 44 = .ok (.lreturn, 1) := by decide +kernel
theorem dX12_feed_0 : decode cX12_feed 0 = .ok (.aload_n 0, 1) := by decide +kernel
theorem dX12_feed_1 : decode cX12_feed 1 = .ok (.iconst 0, 1) := by decide +kernel
theorem dX12_feed_2 : decode cX12_feed 2 = .ok (.putfield 59, 3) := by decide +kernel
theorem dX12_feed_5 : decode cX12_feed 5 = .ok (.aload_n 0, 1) := by decide +kernel
theorem dX12_feed_6 : decode cX12_feed 6 = .ok (.getfield 65, 3) := by decide +kernel
theorem dX12_feed_9 : decode cX12_feed 9 = .ok (.bipush 20, 2) := by decide +kernel
theorem dX12_feed_11 : decode cX12_feed 11 = .ok (.iadd, 1) := by decide +kernel
theorem dX12_feed_12 : decode cX12_feed 12 = .ok (.sipush 900, 3) := by decide +kernel
theorem dX12_feed_15 : decode cX12_feed 15 = .ok (.if_icmp .le 5, 3) := by decide +kernel
theorem dX12_feed_18 : decode cX12_feed 18 = .ok (.iconst (-1), 1) := by decide +kernel
theorem dX12_feed_19 : decode cX12_feed 19 = .ok (.ireturn, 1) := by decide +kernel
theorem dX12_feed_20 : decode cX12_feed 20 = .ok (.iconst 0, 1) := by decide +kernel
theorem dX12_feed_21 : decode cX12_feed 21 = .ok (.istore 6, 2) := by decide +kernel
theorem dX12_feed_23 : decode cX12_feed 23 = .ok (.iload 6, 2) := by decide +kernel
theorem dX12_feed_25 : decode cX12_feed 25 = .ok (.bipush 20, 2) := by decide +kernel
theorem dX12_feed_27 : decode cX12_feed 27 = .ok (.if_icmp .ge 93, 3) := by decide +kernel
theorem dX12_feed_30 : decode cX12_feed 30 = .ok (.iload 6, 2) := by decide +kernel
theorem dX12_feed_32 : decode cX12_feed 32 = .ok (.iconst 4, 1) := by decide +kernel
theorem dX12_feed_33 : decode cX12_feed 33 = .ok (.if_icmp .ge 7, 3) := by decide +kernel
theorem dX12_feed_36 : decode cX12_feed 36 = .ok (.iload_n 1, 1) := by decide +kernel
theorem dX12_feed_37 : decode cX12_feed 37 = .ok (.goto 39, 3) := by decide +kernel
theorem dX12_feed_40 : decode cX12_feed 40 = .ok (.iload 6, 2) := by decide +kernel
theorem dX12_feed_42 : decode cX12_feed 42 = .ok (.bipush 8, 2) := by decide +kernel
theorem dX12_feed_44 : decode cX12_feed 44 = .ok (.if_icmp .ge 7, 3) := by decide +kernel
theorem dX12_feed_47 : decode cX12_feed 47 = .ok (.iload_n 2, 1) := by decide +kernel
theorem dX12_feed_48 : decode cX12_feed 48 = .ok (.goto 28, 3) := by decide +kernel
theorem dX12_feed_51 : decode cX12_feed 51 = .ok (.iload 6, 2) := by decide +kernel
theorem dX12_feed_53 : decode cX12_feed 53 = .ok (.bipush 12, 2) := by decide +kernel
theorem dX12_feed_55 : decode cX12_feed 55 = .ok (.if_icmp .ge 7, 3) := by decide +kernel
theorem dX12_feed_58 : decode cX12_feed 58 = .ok (.iload_n 3, 1) := by decide +kernel
theorem dX12_feed_59 : decode cX12_feed 59 = .ok (.goto 17, 3) := by decide +kernel
theorem dX12_feed_62 : decode cX12_feed 62 = .ok (.iload 6, 2) := by decide +kernel
theorem dX12_feed_64 : decode cX12_feed 64 = .ok (.bipush 16, 2) := by decide +kernel
theorem dX12_feed_66 : decode cX12_feed 66 = .ok (.if_icmp .ge 8, 3) := by decide +kernel
theorem dX12_feed_69 : decode cX12_feed 69 = .ok (.iload 4, 2) := by decide +kernel
theorem dX12_feed_71 : decode cX12_feed 71 = .ok (.goto 5, 3) := by decide +kernel
theorem dX12_feed_74 : decode cX12_feed 74 = .ok (.iload 5, 2) := by decide +kernel
theorem dX12_feed_76 : decode cX12_feed 76 = .ok (.istore 7, 2) := by decide +kernel
theorem dX12_feed_78 : decode cX12_feed 78 = .ok (.aload_n 0, 1) := by decide +kernel
theorem dX12_feed_79 : decode cX12_feed 79 = .ok (.getfield 7, 3) := by decide +kernel
theorem dX12_feed_82 : decode cX12_feed 82 = .ok (.aload_n 0, 1) := by decide +kernel
theorem dX12_feed_83 : decode cX12_feed 83 = .ok (.getfield 65, 3) := by decide +kernel
theorem dX12_feed_86 : decode cX12_feed 86 = .ok (.iload 7, 2) := by decide +kernel
theorem dX12_feed_88 : decode cX12_feed 88 = .ok (.bipush 24, 2) := by decide +kernel
theorem dX12_feed_90 : decode cX12_feed 90 = .ok (.bipush 8, 2) := by decide +kernel
theorem dX12_feed_92 : decode cX12_feed 92 = .ok (.iload 6, 2) := by decide +kernel
theorem dX12_feed_94 : decode cX12_feed 94 = .ok (.iconst 4, 1) := by decide +kernel
theorem dX12_feed_95 : decode cX12_feed 95 = .ok (.irem, 1) := by decide +kernel
theorem dX12_feed_96 : decode cX12_feed 96 = .ok (.imul, 1) := by decide +kernel
theorem dX12_feed_97 : decode cX12_feed 97 = .ok (.isub, 1) := by decide +kernel
theorem dX12_feed_98 : decode cX12_feed 98 = .ok (.ishr, 1) := by decide +kernel
theorem dX12_feed_99 : decode cX12_feed 99 = .ok (.sipush 255, 3) := by decide +kernel
theorem dX12_feed_102 : decode cX12_feed 102 = .ok (.iand, 1) := by decide +kernel
theorem dX12_feed_103 : decode cX12_feed 103 = .ok (.iastore, 1) := by decide +kernel
theorem dX12_feed_104 : decode cX12_feed 104 = .ok (.aload_n 0, 1) := by decide +kernel
theorem dX12_feed_105 : decode cX12_feed 105 = .ok (.dup, 1) := by decide +kernel
theorem dX12_feed_106 : decode cX12_feed 106 = .ok (.getfield 65, 3) := by decide +kernel
theorem dX12_feed_109 : decode cX12_feed 109 = .ok (.iconst 1, 1) := by decide +kernel
theorem dX12_feed_110 : decode cX12_feed 110 = .ok (.iadd, 1) := by decide +kernel
theorem dX12_feed_111 : decode cX12_feed 111 = .ok (.putfield 65, 3) := by decide +kernel
theorem dX12_feed_114 : decode cX12_feed 114 = .ok (.iinc 6 1, 3) := by decide +kernel
theorem dX12_feed_117 : decode cX12_feed 117 = .ok (.goto (-94), 3) := by decide +kernel
theorem dX12_feed_120 : decode cX12_feed 120 = .ok (.aload_n 0, 1) := by decide +kernel
theorem dX12_feed_121 : decode cX12_feed 121 = .ok (.getfield 65, 3) := by decide +kernel
theorem dX12_feed_124 : decode cX12_feed 124 = .ok (.ireturn, 1) := by decide +kernel
theorem dX12_look_0 : decode cX12_look 0 = .ok (.iload_n 1, 1) := by decide +kernel
theorem dX12_look_1 : decode cX12_look 1 = .ok (.aload_n 0, 1) := by decide +kernel
theorem dX12_look_2 : decode cX12_look 2 = .ok (.getfield 68, 3) := by decide +kernel
theorem dX12_look_5 : decode cX12_look 5 = .ok (.if_icmp .ge 12, 3) := by decide +kernel
theorem dX12_look_8 : decode cX12_look 8 = .ok (.aload_n 0, 1) := by decide +kernel
theorem dX12_look_9 : decode cX12_look 9 = .ok (.getfield 7, 3) := by decide +kernel
theorem dX12_look_12 : decode cX12_look 12 = .ok (.iload_n 1, 1) := by decide +kernel
theorem dX12_look_13 : decode cX12_look 13 = .ok (.iaload, 1) := by decide +kernel
theorem dX12_look_14 : decode cX12_look 14 = .ok (.goto 4, 3) := by decide +kernel
theorem dX12_look_17 : decode cX12_look 17 = .ok (.iconst (-1), 1) := by decide +kernel
theorem dX12_look_18 : decode cX12_look 18 = .ok (.ireturn, 1) := by decide +kernel
theorem dX12_isSmall_0 : decode cX12_isSmall 0 = .ok (.iload_n 0, 1) := by decide +kernel
theorem dX12_isSmall_1 : decode cX12_isSmall 1 = .ok (.bipush 97, 2) := by decide +kernel
theorem dX12_isSmall_3 : decode cX12_isSmall 3 = .ok (.if_icmp .lt 13, 3) := by decide +kernel
theorem dX12_isSmall_6 : decode cX12_isSmall 6 = .ok (.iload_n 0, 1) := by decide +kernel
theorem dX12_isSmall_7 : decode cX12_isSmall 7 = .ok (.bipush 122, 2) := by decide +kernel
theorem dX12_isSmall_9 : decode cX12_isSmall 9 = .ok (.if_icmp .gt 7, 3) := by decide +kernel
theorem dX12_isSmall_12 : decode cX12_isSmall 12 = .ok (.iconst 1, 1) := by decide +kernel
theorem dX12_isSmall_13 : decode cX12_isSmall 13 = .ok (.goto 4, 3) := by decide +kernel
theorem dX12_isSmall_16 : decode cX12_isSmall 16 = .ok (.iconst 0, 1) := by decide +kernel
theorem dX12_isSmall_17 : decode cX12_isSmall 17 = .ok (.ireturn, 1) := by decide +kernel
theorem dX12_isDigit_0 : decode cX12_isDigit 0 = .ok (.iload_n 0, 1) := by decide +kernel
theorem dX12_isDigit_1 : decode cX12_isDigit 1 = .ok (.bipush 48, 2) := by decide +kernel
theorem dX12_isDigit_3 : decode cX12_isDigit 3 = .ok (.if_icmp .lt 13, 3) := by decide +kernel
theorem dX12_isDigit_6 : decode cX12_isDigit 6 = .ok (.iload_n 0, 1) := by decide +kernel
theorem dX12_isDigit_7 : decode cX12_isDigit 7 = .ok (.bipush 57, 2) := by decide +kernel
theorem dX12_isDigit_9 : decode cX12_isDigit 9 = .ok (.if_icmp .gt 7, 3) := by decide +kernel
theorem dX12_isDigit_12 : decode cX12_isDigit 12 = .ok (.iconst 1, 1) := by decide +kernel
theorem dX12_isDigit_13 : decode cX12_isDigit 13 = .ok (.goto 4, 3) := by decide +kernel
theorem dX12_isDigit_16 : decode cX12_isDigit 16 = .ok (.iconst 0, 1) := by decide +kernel
theorem dX12_isDigit_17 : decode cX12_isDigit 17 = .ok (.ireturn, 1) := by decide +kernel
theorem dX12_next_0 : decode cX12_next 0 = .ok (.aload_n 0, 1) := by decide +kernel
theorem dX12_next_1 : decode cX12_next 1 = .ok (.getfield 71, 3) := by decide +kernel
theorem dX12_next_4 : decode cX12_next 4 = .ok (.istore_n 1, 1) := by decide +kernel
theorem dX12_next_5 : decode cX12_next 5 = .ok (.aload_n 0, 1) := by decide +kernel
theorem dX12_next_6 : decode cX12_next 6 = .ok (.iload_n 1, 1) := by decide +kernel
theorem dX12_next_7 : decode cX12_next 7 = .ok (.invokevirtual 74, 3) := by decide +kernel
theorem dX12_next_10 : decode cX12_next 10 = .ok (.bipush 32, 2) := by decide +kernel
theorem dX12_next_12 : decode cX12_next 12 = .ok (.if_icmp .ne 9, 3) := by decide +kernel
theorem dX12_next_15 : decode cX12_next 15 = .ok (.iinc 1 1, 3) := by decide +kernel
theorem dX12_next_18 : decode cX12_next 18 = .ok (.goto (-13), 3) := by decide +kernel
theorem dX12_next_21 : decode cX12_next 21 = .ok (.aload_n 0, 1) := by decide +kernel
theorem dX12_next_22 : decode cX12_next 22 = .ok (.iload_n 1, 1) := by decide +kernel
theorem dX12_next_23 : decode cX12_next 23 = .ok (.putfield 78, 3) := by decide +kernel
theorem dX12_next_26 : decode cX12_next 26 = .ok (.aload_n 0, 1) := by decide +kernel
theorem dX12_next_27 : decode cX12_next 27 = .ok (.iload_n 1, 1) := by decide +kernel
theorem dX12_next_28 : decode cX12_next 28 = .ok (.invokevirtual 74, 3) := by decide +kernel
theorem dX12_next_31 : decode cX12_next 31 = .ok (.istore_n 2, 1) := by decide +kernel
theorem dX12_next_32 : decode cX12_next 32 = .ok (.aload_n 0, 1) := by decide +kernel
theorem dX12_next_33 : decode cX12_next 33 = .ok (.iconst 0, 1) := by decide +kernel
theorem dX12_next_34 : decode cX12_next 34 = .ok (.putfield 81, 3) := by decide +kernel
theorem dX12_next_37 : decode cX12_next 37 = .ok (.aload_n 0, 1) := by decide +kernel
theorem dX12_next_38 : decode cX12_next 38 = .ok (.iconst 0, 1) := by decide +kernel
theorem dX12_next_39 : decode cX12_next 39 = .ok (.putfield 84, 3) := by decide +kernel
theorem dX12_next_42 : decode cX12_next 42 = .ok (.iload_n 2, 1) := by decide +kernel
theorem dX12_next_43 : decode cX12_next 43 = .ok (.iconst (-1), 1) := by decide +kernel
theorem dX12_next_44 : decode cX12_next 44 = .ok (.if_icmp .ne 16, 3) := by decide +kernel
theorem dX12_next_47 : decode cX12_next 47 = .ok (.aload_n 0, 1) := by decide +kernel
theorem dX12_next_48 : decode cX12_next 48 = .ok (.iconst 0, 1) := by decide +kernel
theorem dX12_next_49 : decode cX12_next 49 = .ok (.putfield 87, 3) := by decide +kernel
theorem dX12_next_52 : decode cX12_next 52 = .ok (.aload_n 0, 1) := by decide +kernel
theorem dX12_next_53 : decode cX12_next 53 = .ok (.iload_n 1, 1) := by decide +kernel
theorem dX12_next_54 : decode cX12_next 54 = .ok (.putfield 71, 3) := by decide +kernel
theorem dX12_next_57 : decode cX12_next 57 = .ok (.goto 184, 3) := by decide +kernel
theorem dX12_next_60 : decode cX12_next 60 = .ok (.iload_n 2, 1) := by decide +kernel
theorem dX12_next_61 : decode cX12_next 61 = .ok (.invokestatic 90, 3) := by decide +kernel
theorem dX12_next_64 : decode cX12_next 64 = .ok (.ifCond .eq 79, 3) := by decide +kernel
theorem dX12_next_67 : decode cX12_next 67 = .ok (.aload_n 0, 1) := by decide +kernel
theorem dX12_next_68 : decode cX12_next 68 = .ok (.iload_n 1, 1) := by decide +kernel
theorem dX12_next_69 : decode cX12_next 69 = .ok (.invokevirtual 74, 3) := by decide +kernel
theorem dX12_next_72 : decode cX12_next 72 = .ok (.invokestatic 90, 3) := by decide +kernel
theorem dX12_next_75 : decode cX12_next 75 = .ok (.ifCond .eq 42, 3) := by decide +kernel
theorem dX12_next_78 : decode cX12_next 78 = .ok (.aload_n 0, 1) := by decide +kernel
theorem dX12_next_79 : decode cX12_next 79 = .ok (.getfield 81, 3) := by decide +kernel
theorem dX12_next_82 : decode cX12_next 82 = .ok (.bipush 8, 2) := by decide +kernel
theorem dX12_next_84 : decode cX12_next 84 = .ok (.if_icmp .ge 17, 3) := by decide +kernel
theorem dX12_next_87 : decode cX12_next 87 = .ok (.aload_n 0, 1) := by decide +kernel
theorem dX12_next_88 : decode cX12_next 88 = .ok (.getfield 17, 3) := by decide +kernel
theorem dX12_next_91 : decode cX12_next 91 = .ok (.aload_n 0, 1) := by decide +kernel
theorem dX12_next_92 : decode cX12_next 92 = .ok (.getfield 81, 3) := by decide +kernel
theorem dX12_next_95 : decode cX12_next 95 = .ok (.aload_n 0, 1) := by decide +kernel
theorem dX12_next_96 : decode cX12_next 96 = .ok (.iload_n 1, 1) := by decide +kernel
theorem dX12_next_97 : decode cX12_next 97 = .ok (.invokevirtual 74, 3) := by decide +kernel
theorem dX12_next_100 : decode cX12_next 100 = .ok (.iastore, 1) := by decide +kernel
theorem dX12_next_101 : decode cX12_next 101 = .ok (.aload_n 0, 1) := by decide +kernel
theorem dX12_next_102 : decode cX12_next 102 = .ok (.dup, 1) := by decide +kernel
theorem dX12_next_103 : decode cX12_next 103 = .ok (.getfield 81, 3) := by decide +kernel
theorem dX12_next_106 : decode cX12_next 106 = .ok (.iconst 1, 1) := by decide +kernel
theorem dX12_next_107 : decode cX12_next 107 = .ok (.iadd, 1) := by decide +kernel
theorem dX12_next_108 : decode cX12_next 108 = .ok (.putfield 81, 3) := by decide +kernel
theorem dX12_next_111 : decode cX12_next 111 = .ok (.iinc 1 1, 3) := by decide +kernel
theorem dX12_next_114 : decode cX12_next 114 = .ok (.goto (-47), 3) := by decide +kernel
theorem dX12_next_117 : decode cX12_next 117 = .ok (.aload_n 0, 1) := by decide +kernel
theorem dX12_next_118 : decode cX12_next 118 = .ok (.iload_n 1, 1) := by decide +kernel
theorem dX12_next_119 : decode cX12_next 119 = .ok (.putfield 71, 3) := by decide +kernel
theorem dX12_next_122 : decode cX12_next 122 = .ok (.aload_n 0, 1) := by decide +kernel
theorem dX12_next_123 : decode cX12_next 123 = .ok (.aload_n 0, 1) := by decide +kernel
theorem dX12_next_124 : decode cX12_next 124 = .ok (.getfield 81, 3) := by decide +kernel
theorem dX12_next_127 : decode cX12_next 127 = .ok (.bipush 8, 2) := by decide +kernel
theorem dX12_next_129 : decode cX12_next 129 = .ok (.if_icmp .le 7, 3) := by decide +kernel
theorem dX12_next_132 : decode cX12_next 132 = .ok (.iconst 1, 1) := by decide +kernel
theorem dX12_next_133 : decode cX12_next 133 = .ok (.goto 4, 3) := by decide +kernel
theorem dX12_next_136 : decode cX12_next 136 = .ok (.iconst 2, 1) := by decide +kernel
theorem dX12_next_137 : decode cX12_next 137 = .ok (.putfield 87, 3) := by decide +kernel
theorem dX12_next_140 : decode cX12_next 140 = .ok (.goto 101, 3) := by decide +kernel
theorem dX12_next_143 : decode cX12_next 143 = .ok (.iload_n 2, 1) := by decide +kernel
theorem dX12_next_144 : decode cX12_next 144 = .ok (.invokestatic 94, 3) := by decide +kernel
theorem dX12_next_147 : decode cX12_next 147 = .ok (.ifCond .eq 72, 3) := by decide +kernel
theorem dX12_next_150 : decode cX12_next 150 = .ok (.iconst 0, 1) := by decide +kernel
theorem dX12_next_151 : decode cX12_next 151 = .ok (.istore_n 3, 1) := by decide +kernel
theorem dX12_next_152 : decode cX12_next 152 = .ok (.aload_n 0, 1) := by decide +kernel
theorem dX12_next_153 : decode cX12_next 153 = .ok (.iload_n 1, 1) := by decide +kernel
theorem dX12_next_154 : decode cX12_next 154 = .ok (.invokevirtual 74, 3) := by decide +kernel
theorem dX12_next_157 : decode cX12_next 157 = .ok (.invokestatic 94, 3) := by decide +kernel
theorem dX12_next_160 : decode cX12_next 160 = .ok (.ifCond .eq 37, 3) := by decide +kernel
theorem dX12_next_163 : decode cX12_next 163 = .ok (.iload_n 3, 1) := by decide +kernel
theorem dX12_next_164 : decode cX12_next 164 = .ok (.iconst 3, 1) := by decide +kernel
theorem dX12_next_165 : decode cX12_next 165 = .ok (.if_icmp .ge 23, 3) := by decide +kernel
theorem dX12_next_168 : decode cX12_next 168 = .ok (.aload_n 0, 1) := by decide +kernel
theorem dX12_next_169 : decode cX12_next 169 = .ok (.bipush 10, 2) := by decide +kernel
theorem dX12_next_171 : decode cX12_next 171 = .ok (.aload_n 0, 1) := by decide +kernel
theorem dX12_next_172 : decode cX12_next 172 = .ok (.getfield 84, 3) := by decide +kernel
theorem dX12_next_175 : decode cX12_next 175 = .ok (.imul, 1) := by decide +kernel
theorem dX12_next_176 : decode cX12_next 176 = .ok (.aload_n 0, 1) := by decide +kernel
theorem dX12_next_177 : decode cX12_next 177 = .ok (.iload_n 1, 1) := by decide +kernel
theorem dX12_next_178 : decode cX12_next 178 = .ok (.invokevirtual 74, 3) := by decide +kernel
theorem dX12_next_181 : decode cX12_next 181 = .ok (.iadd, 1) := by decide +kernel
theorem dX12_next_182 : decode cX12_next 182 = .ok (.bipush 48, 2) := by decide +kernel
theorem dX12_next_184 : decode cX12_next 184 = .ok (.isub, 1) := by decide +kernel
theorem dX12_next_185 : decode cX12_next 185 = .ok (.putfield 84, 3) := by decide +kernel
theorem dX12_next_188 : decode cX12_next 188 = .ok (.iinc 3 1, 3) := by decide +kernel
theorem dX12_next_191 : decode cX12_next 191 = .ok (.iinc 1 1, 3) := by decide +kernel
theorem dX12_next_194 : decode cX12_next 194 = .ok (.goto (-42), 3) := by decide +kernel
theorem dX12_next_197 : decode cX12_next 197 = .ok (.aload_n 0, 1) := by decide +kernel
theorem dX12_next_198 : decode cX12_next 198 = .ok (.iload_n 1, 1) := by decide +kernel
theorem dX12_next_199 : decode cX12_next 199 = .ok (.putfield 71, 3) := by decide +kernel
theorem dX12_next_202 : decode cX12_next 202 = .ok (.aload_n 0, 1) := by decide +kernel
theorem dX12_next_203 : decode cX12_next 203 = .ok (.iload_n 3, 1) := by decide +kernel
theorem dX12_next_204 : decode cX12_next 204 = .ok (.iconst 3, 1) := by decide +kernel
theorem dX12_next_205 : decode cX12_next 205 = .ok (.if_icmp .le 7, 3) := by decide +kernel
theorem dX12_next_208 : decode cX12_next 208 = .ok (.iconst 1, 1) := by decide +kernel
theorem dX12_next_209 : decode cX12_next 209 = .ok (.goto 4, 3) := by decide +kernel
theorem dX12_next_212 : decode cX12_next 212 = .ok (.iconst 3, 1) := by decide +kernel
theorem dX12_next_213 : decode cX12_next 213 = .ok (.putfield 87, 3) := by decide +kernel
theorem dX12_next_216 : decode cX12_next 216 = .ok (.goto 25, 3) := by decide +kernel
theorem dX12_next_219 : decode cX12_next 219 = .ok (.aload_n 0, 1) := by decide +kernel
theorem dX12_next_220 : decode cX12_next 220 = .ok (.iload_n 1, 1) := by decide +kernel
theorem dX12_next_221 : decode cX12_next 221 = .ok (.iconst 1, 1) := by decide +kernel
theorem dX12_next_222 : decode cX12_next 222 = .ok (.iadd, 1) := by decide +kernel
theorem dX12_next_223 : decode cX12_next 223 = .ok (.putfield 71, 3) := by decide +kernel
theorem dX12_next_226 : decode cX12_next 226 = .ok (.aload_n 0, 1) := by decide +kernel
theorem dX12_next_227 : decode cX12_next 227 = .ok (.iload_n 2, 1) := by decide +kernel
theorem dX12_next_228 : decode cX12_next 228 = .ok (.bipush 59, 2) := by decide +kernel
theorem dX12_next_230 : decode cX12_next 230 = .ok (.if_icmp .ne 7, 3) := by decide +kernel
theorem dX12_next_233 : decode cX12_next 233 = .ok (.iload_n 2, 1) := by decide +kernel
theorem dX12_next_234 : decode cX12_next 234 = .ok (.goto 4, 3) := by decide +kernel
theorem dX12_next_237 : decode cX12_next 237 = .ok (.iconst 1, 1) := by decide +kernel
theorem dX12_next_238 : decode cX12_next 238 = .ok (.putfield 87, 3) := by decide +kernel
theorem dX12_next_241 : decode cX12_next 241 = .ok (.return_, 1) := by decide +kernel
theorem dX12_wrong_0 : decode cX12_wrong 0 = .ok (.aload_n 0, 1) := by decide +kernel
theorem dX12_wrong_1 : decode cX12_wrong 1 = .ok (.getfield 97, 3) := by decide +kernel
theorem dX12_wrong_4 : decode cX12_wrong 4 = .ok (.ifCond .eq 4, 3) := by decide +kernel
theorem dX12_wrong_7 : decode cX12_wrong 7 = .ok (.return_, 1) := by decide +kernel
theorem dX12_wrong_8 : decode cX12_wrong 8 = .ok (.aload_n 0, 1) := by decide +kernel
theorem dX12_wrong_9 : decode cX12_wrong 9 = .ok (.iconst 1, 1) := by decide +kernel
theorem dX12_wrong_10 : decode cX12_wrong 10 = .ok (.putfield 97, 3) := by decide +kernel
theorem dX12_wrong_13 : decode cX12_wrong 13 = .ok (.aload_n 0, 1) := by decide +kernel
theorem dX12_wrong_14 : decode cX12_wrong 14 = .ok (.iload_n 1, 1) := by decide +kernel
theorem dX12_wrong_15 : decode cX12_wrong 15 = .ok (.putfield 101, 3) := by decide +kernel
theorem dX12_wrong_18 : decode cX12_wrong 18 = .ok (.aload_n 0, 1) := by decide +kernel
theorem dX12_wrong_19 : decode cX12_wrong 19 = .ok (.iload_n 2, 1) := by decide +kernel
theorem dX12_wrong_20 : decode cX12_wrong 20 = .ok (.putfield 13, 3) := by decide +kernel
theorem dX12_wrong_23 : decode cX12_wrong 23 = .ok (.return_, 1) := by decide +kernel
theorem dX12_isWord_0 : decode cX12_isWord 0 = .ok (.aload_n 0, 1) := by decide +kernel
theorem dX12_isWord_1 : decode cX12_isWord 1 = .ok (.getfield 97, 3) := by decide +kernel
theorem dX12_isWord_4 : decode cX12_isWord 4 = .ok (.ifCond .ne 22, 3) := by decide +kernel
theorem dX12_isWord_7 : decode cX12_isWord 7 = .ok (.aload_n 0, 1) := by decide +kernel
theorem dX12_isWord_8 : decode cX12_isWord 8 = .ok (.getfield 87, 3) := by decide +kernel
theorem dX12_isWord_11 : decode cX12_isWord 11 = .ok (.iconst 2, 1) := by decide +kernel
theorem dX12_isWord_12 : decode cX12_isWord 12 = .ok (.if_icmp .ne 14, 3) := by decide +kernel
theorem dX12_isWord_15 : decode cX12_isWord 15 = .ok (.aload_n 0, 1) := by decide +kernel
theorem dX12_isWord_16 : decode cX12_isWord 16 = .ok (.getfield 81, 3) := by decide +kernel
theorem dX12_isWord_19 : decode cX12_isWord 19 = .ok (.aload_n 1, 1) := by decide +kernel
theorem dX12_isWord_20 : decode cX12_isWord 20 = .ok (.invokevirtual 104, 3) := by decide +kernel
theorem dX12_isWord_23 : decode cX12_isWord 23 = .ok (.if_icmp .eq 5, 3) := by decide +kernel
theorem dX12_isWord_26 : decode cX12_isWord 26 = .ok (.iconst 0, 1) := by decide +kernel
theorem dX12_isWord_27 : decode cX12_isWord 27 = .ok (.ireturn, 1) := by decide +kernel
theorem dX12_isWord_28 : decode cX12_isWord 28 = .ok (.iconst 1, 1) := by decide +kernel
theorem dX12_isWord_29 : decode cX12_isWord 29 = .ok (.istore_n 2, 1) := by decide +kernel
theorem dX12_isWord_30 : decode cX12_isWord 30 = .ok (.iconst 0, 1) := by decide +kernel
theorem dX12_isWord_31 : decode cX12_isWord 31 = .ok (.istore_n 3, 1) := by decide +kernel
theorem dX12_isWord_32 : decode cX12_isWord 32 = .ok (.iload_n 3, 1) := by decide +kernel
theorem dX12_isWord_33 : decode cX12_isWord 33 = .ok (.aload_n 0, 1) := by decide +kernel
theorem dX12_isWord_34 : decode cX12_isWord 34 = .ok (.getfield 81, 3) := by decide +kernel
theorem dX12_isWord_37 : decode cX12_isWord 37 = .ok (.if_icmp .ge 33, 3) := by decide +kernel
theorem dX12_isWord_40 : decode cX12_isWord 40 = .ok (.iload_n 2, 1) := by decide +kernel
theorem dX12_isWord_41 : decode cX12_isWord 41 = .ok (.ifCond .eq 21, 3) := by decide +kernel
theorem dX12_isWord_44 : decode cX12_isWord 44 = .ok (.aload_n 0, 1) := by decide +kernel
theorem dX12_isWord_45 : decode cX12_isWord 45 = .ok (.getfield 17, 3) := by decide +kernel
theorem dX12_isWord_48 : decode cX12_isWord 48 = .ok (.iload_n 3, 1) := by decide +kernel
theorem dX12_isWord_49 : decode cX12_isWord 49 = .ok (.iaload, 1) := by decide +kernel
theorem dX12_isWord_50 : decode cX12_isWord 50 = .ok (.aload_n 1, 1) := by decide +kernel
theorem dX12_isWord_51 : decode cX12_isWord 51 = .ok (.iload_n 3, 1) := by decide +kernel
theorem dX12_isWord_52 : decode cX12_isWord 52 = .ok (.invokevirtual 110, 3) := by decide +kernel
theorem dX12_isWord_55 : decode cX12_isWord 55 = .ok (.if_icmp .ne 7, 3) := by decide +kernel
theorem dX12_isWord_58 : decode cX12_isWord 58 = .ok (.iconst 1, 1) := by decide +kernel
theorem dX12_isWord_59 : decode cX12_isWord 59 = .ok (.goto 4, 3) := by decide +kernel
theorem dX12_isWord_62 : decode cX12_isWord 62 = .ok (.iconst 0, 1) := by decide +kernel
theorem dX12_isWord_63 : decode cX12_isWord 63 = .ok (.istore_n 2, 1) := by decide +kernel
theorem dX12_isWord_64 : decode cX12_isWord 64 = .ok (.iinc 3 1, 3) := by decide +kernel
theorem dX12_isWord_67 : decode cX12_isWord 67 = .ok (.goto (-35), 3) := by decide +kernel
theorem dX12_isWord_70 : decode cX12_isWord 70 = .ok (.iload_n 2, 1) := by decide +kernel
theorem dX12_isWord_71 : decode cX12_isWord 71 = .ok (.ireturn, 1) := by decide +kernel
theorem dX12_takesWord_0 : decode cX12_takesWord 0 = .ok (.aload_n 0, 1) := by decide +kernel
theorem dX12_takesWord_1 : decode cX12_takesWord 1 = .ok (.aload_n 1, 1) := by decide +kernel
theorem dX12_takesWord_2 : decode cX12_takesWord 2 = .ok (.invokevirtual 114, 3) := by decide +kernel
theorem dX12_takesWord_5 : decode cX12_takesWord 5 = .ok (.ifCond .ne 5, 3) := by decide +kernel
theorem dX12_takesWord_8 : decode cX12_takesWord 8 = .ok (.iconst 0, 1) := by decide +kernel
theorem dX12_takesWord_9 : decode cX12_takesWord 9 = .ok (.ireturn, 1) := by decide +kernel
theorem dX12_takesWord_10 : decode cX12_takesWord 10 = .ok (.aload_n 0, 1) := by decide +kernel
theorem dX12_takesWord_11 : decode cX12_takesWord 11 = .ok (.invokevirtual 118, 3) := by decide +kernel
theorem dX12_takesWord_14 : decode cX12_takesWord 14 = .ok (.iconst 1, 1) := by decide +kernel
theorem dX12_takesWord_15 : decode cX12_takesWord 15 = .ok (.ireturn, 1) := by decide +kernel
theorem dX12_must_0 : decode cX12_must 0 = .ok (.aload_n 0, 1) := by decide +kernel
theorem dX12_must_1 : decode cX12_must 1 = .ok (.getfield 97, 3) := by decide +kernel
theorem dX12_must_4 : decode cX12_must 4 = .ok (.ifCond .ne 20, 3) := by decide +kernel
theorem dX12_must_7 : decode cX12_must 7 = .ok (.aload_n 0, 1) := by decide +kernel
theorem dX12_must_8 : decode cX12_must 8 = .ok (.aload_n 1, 1) := by decide +kernel
theorem dX12_must_9 : decode cX12_must 9 = .ok (.invokevirtual 121, 3) := by decide +kernel
theorem dX12_must_12 : decode cX12_must 12 = .ok (.ifCond .ne 12, 3) := by decide +kernel
theorem dX12_must_15 : decode cX12_must 15 = .ok (.aload_n 0, 1) := by decide +kernel
theorem dX12_must_16 : decode cX12_must 16 = .ok (.iconst 1, 1) := by decide +kernel
theorem dX12_must_17 : decode cX12_must 17 = .ok (.aload_n 0, 1) := by decide +kernel
theorem dX12_must_18 : decode cX12_must 18 = .ok (.getfield 78, 3) := by decide +kernel
theorem dX12_must_21 : decode cX12_must 21 = .ok (.invokevirtual 124, 3) := by decide +kernel
theorem dX12_must_24 : decode cX12_must 24 = .ok (.return_, 1) := by decide +kernel
theorem dX12_mustName_0 : decode cX12_mustName 0 = .ok (.aload_n 0, 1) := by decide +kernel
theorem dX12_mustName_1 : decode cX12_mustName 1 = .ok (.getfield 87, 3) := by decide +kernel
theorem dX12_mustName_4 : decode cX12_mustName 4 = .ok (.iconst 2, 1) := by decide +kernel
theorem dX12_mustName_5 : decode cX12_mustName 5 = .ok (.if_icmp .ne 75, 3) := by decide +kernel
theorem dX12_mustName_8 : decode cX12_mustName 8 = .ok (.aload_n 0, 1) := by decide +kernel
theorem dX12_mustName_9 : decode cX12_mustName 9 = .ok (.ldc 128, 2) := by decide +kernel
theorem dX12_mustName_11 : decode cX12_mustName 11 = .ok (.invokevirtual 114, 3) := by decide +kernel
theorem dX12_mustName_14 : decode cX12_mustName 14 = .ok (.ifCond .ne 66, 3) := by decide +kernel
theorem dX12_mustName_17 : decode cX12_mustName 17 = .ok (.aload_n 0, 1) := by decide +kernel
theorem dX12_mustName_18 : decode cX12_mustName 18 = .ok (.ldc 130, 2) := by decide +kernel
theorem dX12_mustName_20 : decode cX12_mustName 20 = .ok (.invokevirtual 114, 3) := by decide +kernel
theorem dX12_mustName_23 : decode cX12_mustName 23 = .ok (.ifCond .ne 57, 3) := by decide +kernel
theorem dX12_mustName_26 : decode cX12_mustName 26 = .ok (.aload_n 0, 1) := by decide +kernel
theorem dX12_mustName_27 : decode cX12_mustName 27 = .ok (.ldc 132, 2) := by decide +kernel
theorem dX12_mustName_29 : decode cX12_mustName 29 = .ok (.invokevirtual 114, 3) := by decide +kernel
theorem dX12_mustName_32 : decode cX12_mustName 32 = .ok (.ifCond .ne 48, 3) := by decide +kernel
theorem dX12_mustName_35 : decode cX12_mustName 35 = .ok (.aload_n 0, 1) := by decide +kernel
theorem dX12_mustName_36 : decode cX12_mustName 36 = .ok (.ldc 134, 2) := by decide +kernel
theorem dX12_mustName_38 : decode cX12_mustName 38 = .ok (.invokevirtual 114, 3) := by decide +kernel
theorem dX12_mustName_41 : decode cX12_mustName 41 = .ok (.ifCond .ne 39, 3) := by decide +kernel
theorem dX12_mustName_44 : decode cX12_mustName 44 = .ok (.aload_n 0, 1) := by decide +kernel
theorem dX12_mustName_45 : decode cX12_mustName 45 = .ok (.ldc 136, 2) := by decide +kernel
theorem dX12_mustName_47 : decode cX12_mustName 47 = .ok (.invokevirtual 114, 3) := by decide +kernel
theorem dX12_mustName_50 : decode cX12_mustName 50 = .ok (.ifCond .ne 30, 3) := by decide +kernel
theorem dX12_mustName_53 : decode cX12_mustName 53 = .ok (.aload_n 0, 1) := by decide +kernel
theorem dX12_mustName_54 : decode cX12_mustName 54 = .ok (.ldc 138, 2) := by decide +kernel
theorem dX12_mustName_56 : decode cX12_mustName 56 = .ok (.invokevirtual 114, 3) := by decide +kernel
theorem dX12_mustName_59 : decode cX12_mustName 59 = .ok (.ifCond .ne 21, 3) := by decide +kernel
theorem dX12_mustName_62 : decode cX12_mustName 62 = .ok (.aload_n 0, 1) := by decide +kernel
theorem dX12_mustName_63 : decode cX12_mustName 63 = .ok (.ldc 140, 2) := by decide +kernel
theorem dX12_mustName_65 : decode cX12_mustName 65 = .ok (.invokevirtual 114, 3) := by decide +kernel
theorem dX12_mustName_68 : decode cX12_mustName 68 = .ok (.ifCond .ne 12, 3) := by decide +kernel
theorem dX12_mustName_71 : decode cX12_mustName 71 = .ok (.aload_n 0, 1) := by decide +kernel
theorem dX12_mustName_72 : decode cX12_mustName 72 = .ok (.ldc 142, 2) := by decide +kernel
theorem dX12_mustName_74 : decode cX12_mustName 74 = .ok (.invokevirtual 114, 3) := by decide +kernel
theorem dX12_mustName_77 : decode cX12_mustName 77 = .ok (.ifCond .eq 12, 3) := by decide +kernel
theorem dX12_mustName_80 : decode cX12_mustName 80 = .ok (.aload_n 0, 1) := by decide +kernel
theorem dX12_mustName_81 : decode cX12_mustName 81 = .ok (.iconst 1, 1) := by decide +kernel
theorem dX12_mustName_82 : decode cX12_mustName 82 = .ok (.aload_n 0, 1) := by decide +kernel
theorem dX12_mustName_83 : decode cX12_mustName 83 = .ok (.getfield 78, 3) := by decide +kernel
theorem dX12_mustName_86 : decode cX12_mustName 86 = .ok (.invokevirtual 124, 3) := by decide +kernel
theorem dX12_mustName_89 : decode cX12_mustName 89 = .ok (.return_, 1) := by decide +kernel
theorem dX12_find_0 : decode cX12_find 0 = .ok (.iconst 0, 1) := by decide +kernel
theorem dX12_find_1 : decode cX12_find 1 = .ok (.istore_n 1, 1) := by decide +kernel
theorem dX12_find_2 : decode cX12_find 2 = .ok (.iload_n 1, 1) := by decide +kernel
theorem dX12_find_3 : decode cX12_find 3 = .ok (.bipush 19, 2) := by decide +kernel
theorem dX12_find_5 : decode cX12_find 5 = .ok (.if_icmp .ge 98, 3) := by decide +kernel
theorem dX12_find_8 : decode cX12_find 8 = .ok (.aload_n 0, 1) := by decide +kernel
theorem dX12_find_9 : decode cX12_find 9 = .ok (.getfield 23, 3) := by decide +kernel
theorem dX12_find_12 : decode cX12_find 12 = .ok (.bipush 105, 2) := by decide +kernel
theorem dX12_find_14 : decode cX12_find 14 = .ok (.iload_n 1, 1) := by decide +kernel
theorem dX12_find_15 : decode cX12_find 15 = .ok (.iadd, 1) := by decide +kernel
theorem dX12_find_16 : decode cX12_find 16 = .ok (.iaload, 1) := by decide +kernel
theorem dX12_find_17 : decode cX12_find 17 = .ok (.ifCond .le 23, 3) := by decide +kernel
theorem dX12_find_20 : decode cX12_find 20 = .ok (.aload_n 0, 1) := by decide +kernel
theorem dX12_find_21 : decode cX12_find 21 = .ok (.getfield 23, 3) := by decide +kernel
theorem dX12_find_24 : decode cX12_find 24 = .ok (.bipush 105, 2) := by decide +kernel
theorem dX12_find_26 : decode cX12_find 26 = .ok (.iload_n 1, 1) := by decide +kernel
theorem dX12_find_27 : decode cX12_find 27 = .ok (.iadd, 1) := by decide +kernel
theorem dX12_find_28 : decode cX12_find 28 = .ok (.iaload, 1) := by decide +kernel
theorem dX12_find_29 : decode cX12_find 29 = .ok (.aload_n 0, 1) := by decide +kernel
theorem dX12_find_30 : decode cX12_find 30 = .ok (.getfield 81, 3) := by decide +kernel
theorem dX12_find_33 : decode cX12_find 33 = .ok (.if_icmp .ne 7, 3) := by decide +kernel
theorem dX12_find_36 : decode cX12_find 36 = .ok (.iconst 1, 1) := by decide +kernel
theorem dX12_find_37 : decode cX12_find 37 = .ok (.goto 4, 3) := by decide +kernel
theorem dX12_find_40 : decode cX12_find 40 = .ok (.iconst 0, 1) := by decide +kernel
theorem dX12_find_41 : decode cX12_find 41 = .ok (.istore_n 2, 1) := by decide +kernel
theorem dX12_find_42 : decode cX12_find 42 = .ok (.iconst 0, 1) := by decide +kernel
theorem dX12_find_43 : decode cX12_find 43 = .ok (.istore_n 3, 1) := by decide +kernel
theorem dX12_find_44 : decode cX12_find 44 = .ok (.iload_n 3, 1) := by decide +kernel
theorem dX12_find_45 : decode cX12_find 45 = .ok (.aload_n 0, 1) := by decide +kernel
theorem dX12_find_46 : decode cX12_find 46 = .ok (.getfield 81, 3) := by decide +kernel
theorem dX12_find_49 : decode cX12_find 49 = .ok (.if_icmp .ge 42, 3) := by decide +kernel
theorem dX12_find_52 : decode cX12_find 52 = .ok (.iload_n 2, 1) := by decide +kernel
theorem dX12_find_53 : decode cX12_find 53 = .ok (.ifCond .eq 38, 3) := by decide +kernel
theorem dX12_find_56 : decode cX12_find 56 = .ok (.aload_n 0, 1) := by decide +kernel
theorem dX12_find_57 : decode cX12_find 57 = .ok (.getfield 23, 3) := by decide +kernel
theorem dX12_find_60 : decode cX12_find 60 = .ok (.bipush 124, 2) := by decide +kernel
theorem dX12_find_62 : decode cX12_find 62 = .ok (.bipush 8, 2) := by decide +kernel
theorem dX12_find_64 : decode cX12_find 64 = .ok (.iload_n 1, 1) := by decide +kernel
theorem dX12_find_65 : decode cX12_find 65 = .ok (.imul, 1) := by decide +kernel
theorem dX12_find_66 : decode cX12_find 66 = .ok (.iadd, 1) := by decide +kernel
theorem dX12_find_67 : decode cX12_find 67 = .ok (.iload_n 3, 1) := by decide +kernel
theorem dX12_find_68 : decode cX12_find 68 = .ok (.iadd, 1) := by decide +kernel
theorem dX12_find_69 : decode cX12_find 69 = .ok (.iaload, 1) := by decide +kernel
theorem dX12_find_70 : decode cX12_find 70 = .ok (.aload_n 0, 1) := by decide +kernel
theorem dX12_find_71 : decode cX12_find 71 = .ok (.getfield 17, 3) := by decide +kernel
theorem dX12_find_74 : decode cX12_find 74 = .ok (.iload_n 3, 1) := by decide +kernel
theorem dX12_find_75 : decode cX12_find 75 = .ok (.iaload, 1) := by decide +kernel
theorem dX12_find_76 : decode cX12_find 76 = .ok (.if_icmp .ne 7, 3) := by decide +kernel
theorem dX12_find_79 : decode cX12_find 79 = .ok (.iconst 1, 1) := by decide +kernel
theorem dX12_find_80 : decode cX12_find 80 = .ok (.goto 4, 3) := by decide +kernel
theorem dX12_find_83 : decode cX12_find 83 = .ok (.iconst 0, 1) := by decide +kernel
theorem dX12_find_84 : decode cX12_find 84 = .ok (.istore_n 2, 1) := by decide +kernel
theorem dX12_find_85 : decode cX12_find 85 = .ok (.iinc 3 1, 3) := by decide +kernel
theorem dX12_find_88 : decode cX12_find 88 = .ok (.goto (-44), 3) := by decide +kernel
theorem dX12_find_91 : decode cX12_find 91 = .ok (.iload_n 2, 1) := by decide +kernel
theorem dX12_find_92 : decode cX12_find 92 = .ok (.ifCond .eq 5, 3) := by decide +kernel
theorem dX12_find_95 : decode cX12_find 95 = .ok (.iload_n 1, 1) := by decide +kernel
theorem dX12_find_96 : decode cX12_find 96 = .ok (.ireturn, 1) := by decide +kernel
theorem dX12_find_97 : decode cX12_find 97 = .ok (.iinc 1 1, 3) := by decide +kernel
theorem dX12_find_100 : decode cX12_find 100 = .ok (.goto (-98), 3) := by decide +kernel
theorem dX12_find_103 : decode cX12_find 103 = .ok (.iconst (-1), 1) := by decide +kernel
theorem dX12_find_104 : decode cX12_find 104 = .ok (.ireturn, 1) := by decide +kernel
theorem dX12_newName_0 : decode cX12_newName 0 = .ok (.aload_n 0, 1) := by decide +kernel
theorem dX12_newName_1 : decode cX12_newName 1 = .ok (.getfield 97, 3) := by decide +kernel
theorem dX12_newName_4 : decode cX12_newName 4 = .ok (.ifCond .eq 4, 3) := by decide +kernel
theorem dX12_newName_7 : decode cX12_newName 7 = .ok (.return_, 1) := by decide +kernel
theorem dX12_newName_8 : decode cX12_newName 8 = .ok (.aload_n 0, 1) := by decide +kernel
theorem dX12_newName_9 : decode cX12_newName 9 = .ok (.invokevirtual 144, 3) := by decide +kernel
theorem dX12_newName_12 : decode cX12_newName 12 = .ok (.aload_n 0, 1) := by decide +kernel
theorem dX12_newName_13 : decode cX12_newName 13 = .ok (.getfield 97, 3) := by decide +kernel
theorem dX12_newName_16 : decode cX12_newName 16 = .ok (.ifCond .ne 19, 3) := by decide +kernel
theorem dX12_newName_19 : decode cX12_newName 19 = .ok (.aload_n 0, 1) := by decide +kernel
theorem dX12_newName_20 : decode cX12_newName 20 = .ok (.invokevirtual 147, 3) := by decide +kernel
theorem dX12_newName_23 : decode cX12_newName 23 = .ok (.ifCond .lt 12, 3) := by decide +kernel
theorem dX12_newName_26 : decode cX12_newName 26 = .ok (.aload_n 0, 1) := by decide +kernel
theorem dX12_newName_27 : decode cX12_newName 27 = .ok (.iconst 3, 1) := by decide +kernel
theorem dX12_newName_28 : decode cX12_newName 28 = .ok (.aload_n 0, 1) := by decide +kernel
theorem dX12_newName_29 : decode cX12_newName 29 = .ok (.getfield 78, 3) := by decide +kernel
theorem dX12_newName_32 : decode cX12_newName 32 = .ok (.invokevirtual 124, 3) := by decide +kernel
theorem dX12_newName_35 : decode cX12_newName 35 = .ok (.aload_n 0, 1) := by decide +kernel
theorem dX12_newName_36 : decode cX12_newName 36 = .ok (.getfield 97, 3) := by decide +kernel
theorem dX12_newName_39 : decode cX12_newName 39 = .ok (.ifCond .eq 4, 3) := by decide +kernel
theorem dX12_newName_42 : decode cX12_newName 42 = .ok (.return_, 1) := by decide +kernel
theorem dX12_newName_43 : decode cX12_newName 43 = .ok (.iconst 0, 1) := by decide +kernel
theorem dX12_newName_44 : decode cX12_newName 44 = .ok (.istore_n 2, 1) := by decide +kernel
theorem dX12_newName_45 : decode cX12_newName 45 = .ok (.iload_n 2, 1) := by decide +kernel
theorem dX12_newName_46 : decode cX12_newName 46 = .ok (.aload_n 0, 1) := by decide +kernel
theorem dX12_newName_47 : decode cX12_newName 47 = .ok (.getfield 81, 3) := by decide +kernel
theorem dX12_newName_50 : decode cX12_newName 50 = .ok (.if_icmp .ge 29, 3) := by decide +kernel
theorem dX12_newName_53 : decode cX12_newName 53 = .ok (.aload_n 0, 1) := by decide +kernel
theorem dX12_newName_54 : decode cX12_newName 54 = .ok (.getfield 23, 3) := by decide +kernel
theorem dX12_newName_57 : decode cX12_newName 57 = .ok (.bipush 124, 2) := by decide +kernel
theorem dX12_newName_59 : decode cX12_newName 59 = .ok (.bipush 8, 2) := by decide +kernel
theorem dX12_newName_61 : decode cX12_newName 61 = .ok (.iload_n 1, 1) := by decide +kernel
theorem dX12_newName_62 : decode cX12_newName 62 = .ok (.imul, 1) := by decide +kernel
theorem dX12_newName_63 : decode cX12_newName 63 = .ok (.iadd, 1) := by decide +kernel
theorem dX12_newName_64 : decode cX12_newName 64 = .ok (.iload_n 2, 1) := by decide +kernel
theorem dX12_newName_65 : decode cX12_newName 65 = .ok (.iadd, 1) := by decide +kernel
theorem dX12_newName_66 : decode cX12_newName 66 = .ok (.aload_n 0, 1) := by decide +kernel
theorem dX12_newName_67 : decode cX12_newName 67 = .ok (.getfield 17, 3) := by decide +kernel
theorem dX12_newName_70 : decode cX12_newName 70 = .ok (.iload_n 2, 1) := by decide +kernel
theorem dX12_newName_71 : decode cX12_newName 71 = .ok (.iaload, 1) := by decide +kernel
theorem dX12_newName_72 : decode cX12_newName 72 = .ok (.iastore, 1) := by decide +kernel
theorem dX12_newName_73 : decode cX12_newName 73 = .ok (.iinc 2 1, 3) := by decide +kernel
theorem dX12_newName_76 : decode cX12_newName 76 = .ok (.goto (-31), 3) := by decide +kernel
theorem dX12_newName_79 : decode cX12_newName 79 = .ok (.aload_n 0, 1) := by decide +kernel
theorem dX12_newName_80 : decode cX12_newName 80 = .ok (.getfield 23, 3) := by decide +kernel
theorem dX12_newName_83 : decode cX12_newName 83 = .ok (.bipush 105, 2) := by decide +kernel
theorem dX12_newName_85 : decode cX12_newName 85 = .ok (.iload_n 1, 1) := by decide +kernel
theorem dX12_newName_86 : decode cX12_newName 86 = .ok (.iadd, 1) := by decide +kernel
theorem dX12_newName_87 : decode cX12_newName 87 = .ok (.aload_n 0, 1) := by decide +kernel
