theorem dX0_init_0 : decode cX0_init 0 = .ok (.aload_n 0, 1) := by decide +kernel
theorem dX0_init_1 : decode cX0_init 1 = .ok (.invokespecial 3, 3) := by decide +kernel
theorem dX0_init_4 : decode cX0_init 4 = .ok (.aload_n 0, 1) := by decide +kernel
theorem dX0_init_5 : decode cX0_init 5 = .ok (.getstatic 9, 3) := by decide +kernel
theorem dX0_init_8 : decode cX0_init 8 = .ok (.iconst 5, 1) := by decide +kernel
theorem dX0_init_9 : decode cX0_init 9 = .ok (.iaload, 1) := by decide +kernel
theorem dX0_init_10 : decode cX0_init 10 = .ok (.newarray .int, 2) := by decide +kernel
theorem dX0_init_12 : decode cX0_init 12 = .ok (.putfield 13, 3) := by decide +kernel
theorem dX0_init_15 : decode cX0_init 15 = .ok (.aload_n 0, 1) := by decide +kernel
theorem dX0_init_16 : decode cX0_init 16 = .ok (.getstatic 9, 3) := by decide +kernel
theorem dX0_init_19 : decode cX0_init 19 = .ok (.iconst 5, 1) := by decide +kernel
theorem dX0_init_20 : decode cX0_init 20 = .ok (.iaload, 1) := by decide +kernel
theorem dX0_init_21 : decode cX0_init 21 = .ok (.newarray .int, 2) := by decide +kernel
theorem dX0_init_23 : decode cX0_init 23 = .ok (.putfield 18, 3) := by decide +kernel
theorem dX0_init_26 : decode cX0_init 26 = .ok (.return_, 1) := by decide +kernel
theorem dX0_divide_0 : decode cX0_divide 0 = .ok (.aload_n 1, 1) := by decide +kernel
theorem dX0_divide_1 : decode cX0_divide 1 = .ok (.getfield 21, 3) := by decide +kernel
theorem dX0_divide_4 : decode cX0_divide 4 = .ok (.iconst 5, 1) := by decide +kernel
theorem dX0_divide_5 : decode cX0_divide 5 = .ok (.iaload, 1) := by decide +kernel
theorem dX0_divide_6 : decode cX0_divide 6 = .ok (.istore 4, 2) := by decide +kernel
theorem dX0_divide_8 : decode cX0_divide 8 = .ok (.iconst 0, 1) := by decide +kernel
theorem dX0_divide_9 : decode cX0_divide 9 = .ok (.istore 5, 2) := by decide +kernel
theorem dX0_divide_11 : decode cX0_divide 11 = .ok (.iconst 0, 1) := by decide +kernel
theorem dX0_divide_12 : decode cX0_divide 12 = .ok (.istore 6, 2) := by decide +kernel
theorem dX0_divide_14 : decode cX0_divide 14 = .ok (.iload 6, 2) := by decide +kernel
theorem dX0_divide_16 : decode cX0_divide 16 = .ok (.iload 4, 2) := by decide +kernel
theorem dX0_divide_18 : decode cX0_divide 18 = .ok (.if_icmp .ge 29, 3) := by decide +kernel
theorem dX0_divide_21 : decode cX0_divide 21 = .ok (.iload 5, 2) := by decide +kernel
theorem dX0_divide_23 : decode cX0_divide 23 = .ok (.aload_n 1, 1) := by decide +kernel
theorem dX0_divide_24 : decode cX0_divide 24 = .ok (.iload 6, 2) := by decide +kernel
theorem dX0_divide_26 : decode cX0_divide 26 = .ok (.iload_n 3, 1) := by decide +kernel
theorem dX0_divide_27 : decode cX0_divide 27 = .ok (.invokevirtual 26, 3) := by decide +kernel
theorem dX0_divide_30 : decode cX0_divide 30 = .ok (.iadd, 1) := by decide +kernel
theorem dX0_divide_31 : decode cX0_divide 31 = .ok (.istore 5, 2) := by decide +kernel
theorem dX0_divide_33 : decode cX0_divide 33 = .ok (.aload_n 0, 1) := by decide +kernel
theorem dX0_divide_34 : decode cX0_divide 34 = .ok (.getfield 13, 3) := by decide +kernel
theorem dX0_divide_37 : decode cX0_divide 37 = .ok (.iload 6, 2) := by decide +kernel
theorem dX0_divide_39 : decode cX0_divide 39 = .ok (.iconst 0, 1) := by decide +kernel
theorem dX0_divide_40 : decode cX0_divide 40 = .ok (.iastore, 1) := by decide +kernel
theorem dX0_divide_41 : decode cX0_divide 41 = .ok (.iinc 6 1, 3) := by decide +kernel
theorem dX0_divide_44 : decode cX0_divide 44 = .ok (.goto (-30), 3) := by decide +kernel
theorem dX0_divide_47 : decode cX0_divide 47 = .ok (.iload 5, 2) := by decide +kernel
theorem dX0_divide_49 : decode cX0_divide 49 = .ok (.ifCond .gt 4, 3) := by decide +kernel
theorem dX0_divide_52 : decode cX0_divide 52 = .ok (.return_, 1) := by decide +kernel
theorem dX0_divide_53 : decode cX0_divide 53 = .ok (.iload_n 2, 1) := by decide +kernel
theorem dX0_divide_54 : decode cX0_divide 54 = .ok (.istore 6, 2) := by decide +kernel
theorem dX0_divide_56 : decode cX0_divide 56 = .ok (.iconst 0, 1) := by decide +kernel
theorem dX0_divide_57 : decode cX0_divide 57 = .ok (.istore 7, 2) := by decide +kernel
theorem dX0_divide_59 : decode cX0_divide 59 = .ok (.iload 7, 2) := by decide +kernel
theorem dX0_divide_61 : decode cX0_divide 61 = .ok (.iload 4, 2) := by decide +kernel
theorem dX0_divide_63 : decode cX0_divide 63 = .ok (.if_icmp .ge 56, 3) := by decide +kernel
theorem dX0_divide_66 : decode cX0_divide 66 = .ok (.iload_n 2, 1) := by decide +kernel
theorem dX0_divide_67 : decode cX0_divide 67 = .ok (.aload_n 1, 1) := by decide +kernel
theorem dX0_divide_68 : decode cX0_divide 68 = .ok (.iload 7, 2) := by decide +kernel
theorem dX0_divide_70 : decode cX0_divide 70 = .ok (.iload_n 3, 1) := by decide +kernel
theorem dX0_divide_71 : decode cX0_divide 71 = .ok (.invokevirtual 26, 3) := by decide +kernel
theorem dX0_divide_74 : decode cX0_divide 74 = .ok (.imul, 1) := by decide +kernel
theorem dX0_divide_75 : decode cX0_divide 75 = .ok (.istore 8, 2) := by decide +kernel
theorem dX0_divide_77 : decode cX0_divide 77 = .ok (.aload_n 0, 1) := by decide +kernel
theorem dX0_divide_78 : decode cX0_divide 78 = .ok (.getfield 13, 3) := by decide +kernel
theorem dX0_divide_81 : decode cX0_divide 81 = .ok (.iload 7, 2) := by decide +kernel
theorem dX0_divide_83 : decode cX0_divide 83 = .ok (.iload 8, 2) := by decide +kernel
theorem dX0_divide_85 : decode cX0_divide 85 = .ok (.iload 5, 2) := by decide +kernel
theorem dX0_divide_87 : decode cX0_divide 87 = .ok (.idiv, 1) := by decide +kernel
theorem dX0_divide_88 : decode cX0_divide 88 = .ok (.iastore, 1) := by decide +kernel
theorem dX0_divide_89 : decode cX0_divide 89 = .ok (.aload_n 0, 1) := by decide +kernel
theorem dX0_divide_90 : decode cX0_divide 90 = .ok (.getfield 18, 3) := by decide +kernel
theorem dX0_divide_93 : decode cX0_divide 93 = .ok (.iload 7, 2) := by decide +kernel
theorem dX0_divide_95 : decode cX0_divide 95 = .ok (.iload 8, 2) := by decide +kernel
theorem dX0_divide_97 : decode cX0_divide 97 = .ok (.iload 5, 2) := by decide +kernel
theorem dX0_divide_99 : decode cX0_divide 99 = .ok (.irem, 1) := by decide +kernel
theorem dX0_divide_100 : decode cX0_divide 100 = .ok (.iastore, 1) := by decide +kernel
theorem dX0_divide_101 : decode cX0_divide 101 = .ok (.iload 6, 2) := by decide +kernel
theorem dX0_divide_103 : decode cX0_divide 103 = .ok (.aload_n 0, 1) := by decide +kernel
theorem dX0_divide_104 : decode cX0_divide 104 = .ok (.getfield 13, 3) := by decide +kernel
theorem dX0_divide_107 : decode cX0_divide 107 = .ok (.iload 7, 2) := by decide +kernel
theorem dX0_divide_109 : decode cX0_divide 109 = .ok (.iaload, 1) := by decide +kernel
theorem dX0_divide_110 : decode cX0_divide 110 = .ok (.isub, 1) := by decide +kernel
theorem dX0_divide_111 : decode cX0_divide 111 = .ok (.istore 6, 2) := by decide +kernel
theorem dX0_divide_113 : decode cX0_divide 113 = .ok (.iinc 7 1, 3) := by decide +kernel
theorem dX0_divide_116 : decode cX0_divide 116 = .ok (.goto (-57), 3) := by decide +kernel
theorem dX0_divide_119 : decode cX0_divide 119 = .ok (.aload_n 0, 1) := by decide +kernel
theorem dX0_divide_120 : decode cX0_divide 120 = .ok (.iload 6, 2) := by decide +kernel
theorem dX0_divide_122 : decode cX0_divide 122 = .ok (.iload 4, 2) := by decide +kernel
theorem dX0_divide_124 : decode cX0_divide 124 = .ok (.invokevirtual 30, 3) := by decide +kernel
theorem dX0_divide_127 : decode cX0_divide 127 = .ok (.return_, 1) := by decide +kernel
theorem dX0_handOut_0 : decode cX0_handOut 0 = .ok (.iconst 0, 1) := by decide +kernel
theorem dX0_handOut_1 : decode cX0_handOut 1 = .ok (.istore_n 3, 1) := by decide +kernel
theorem dX0_handOut_2 : decode cX0_handOut 2 = .ok (.iload_n 3, 1) := by decide +kernel
theorem dX0_handOut_3 : decode cX0_handOut 3 = .ok (.iload_n 1, 1) := by decide +kernel
theorem dX0_handOut_4 : decode cX0_handOut 4 = .ok (.if_icmp .ge 72, 3) := by decide +kernel
theorem dX0_handOut_7 : decode cX0_handOut 7 = .ok (.iload_n 3, 1) := by decide +kernel
theorem dX0_handOut_8 : decode cX0_handOut 8 = .ok (.iload_n 2, 1) := by decide +kernel
theorem dX0_handOut_9 : decode cX0_handOut 9 = .ok (.if_icmp .ge 67, 3) := by decide +kernel
theorem dX0_handOut_12 : decode cX0_handOut 12 = .ok (.iconst 0, 1) := by decide +kernel
theorem dX0_handOut_13 : decode cX0_handOut 13 = .ok (.istore 4, 2) := by decide +kernel
theorem dX0_handOut_15 : decode cX0_handOut 15 = .ok (.iconst 1, 1) := by decide +kernel
theorem dX0_handOut_16 : decode cX0_handOut 16 = .ok (.istore 5, 2) := by decide +kernel
theorem dX0_handOut_18 : decode cX0_handOut 18 = .ok (.iload 5, 2) := by decide +kernel
theorem dX0_handOut_20 : decode cX0_handOut 20 = .ok (.iload_n 2, 1) := by decide +kernel
theorem dX0_handOut_21 : decode cX0_handOut 21 = .ok (.if_icmp .ge 30, 3) := by decide +kernel
theorem dX0_handOut_24 : decode cX0_handOut 24 = .ok (.aload_n 0, 1) := by decide +kernel
theorem dX0_handOut_25 : decode cX0_handOut 25 = .ok (.getfield 18, 3) := by decide +kernel
theorem dX0_handOut_28 : decode cX0_handOut 28 = .ok (.iload 5, 2) := by decide +kernel
theorem dX0_handOut_30 : decode cX0_handOut 30 = .ok (.iaload, 1) := by decide +kernel
theorem dX0_handOut_31 : decode cX0_handOut 31 = .ok (.aload_n 0, 1) := by decide +kernel
theorem dX0_handOut_32 : decode cX0_handOut 32 = .ok (.getfield 18, 3) := by decide +kernel
theorem dX0_handOut_35 : decode cX0_handOut 35 = .ok (.iload 4, 2) := by decide +kernel
theorem dX0_handOut_37 : decode cX0_handOut 37 = .ok (.iaload, 1) := by decide +kernel
theorem dX0_handOut_38 : decode cX0_handOut 38 = .ok (.if_icmp .le 7, 3) := by decide +kernel
theorem dX0_handOut_41 : decode cX0_handOut 41 = .ok (.iload 5, 2) := by decide +kernel
theorem dX0_handOut_43 : decode cX0_handOut 43 = .ok (.istore 4, 2) := by decide +kernel
theorem dX0_handOut_45 : decode cX0_handOut 45 = .ok (.iinc 5 1, 3) := by decide +kernel
theorem dX0_handOut_48 : decode cX0_handOut 48 = .ok (.goto (-30), 3) := by decide +kernel
theorem dX0_handOut_51 : decode cX0_handOut 51 = .ok (.aload_n 0, 1) := by decide +kernel
theorem dX0_handOut_52 : decode cX0_handOut 52 = .ok (.getfield 13, 3) := by decide +kernel
theorem dX0_handOut_55 : decode cX0_handOut 55 = .ok (.iload 4, 2) := by decide +kernel
theorem dX0_handOut_57 : decode cX0_handOut 57 = .ok (.dup2, 1) := by decide +kernel
theorem dX0_handOut_58 : decode cX0_handOut 58 = .ok (.iaload, 1) := by decide +kernel
theorem dX0_handOut_59 : decode cX0_handOut 59 = .ok (.iconst 1, 1) := by decide +kernel
theorem dX0_handOut_60 : decode cX0_handOut 60 = .ok (.iadd, 1) := by decide +kernel
theorem dX0_handOut_61 : decode cX0_handOut 61 = .ok (.iastore, 1) := by decide +kernel
theorem dX0_handOut_62 : decode cX0_handOut 62 = .ok (.aload_n 0, 1) := by decide +kernel
theorem dX0_handOut_63 : decode cX0_handOut 63 = .ok (.getfield 18, 3) := by decide +kernel
theorem dX0_handOut_66 : decode cX0_handOut 66 = .ok (.iload 4, 2) := by decide +kernel
theorem dX0_handOut_68 : decode cX0_handOut 68 = .ok (.iconst (-1), 1) := by decide +kernel
theorem dX0_handOut_69 : decode cX0_handOut 69 = .ok (.iastore, 1) := by decide +kernel
theorem dX0_handOut_70 : decode cX0_handOut 70 = .ok (.iinc 3 1, 3) := by decide +kernel
theorem dX0_handOut_73 : decode cX0_handOut 73 = .ok (.goto (-71), 3) := by decide +kernel
theorem dX0_handOut_76 : decode cX0_handOut 76 = .ok (.return_, 1) := by decide +kernel
theorem dX1_init_0 : decode cX1_init 0 = .ok (.aload_n 0, 1) := by decide +kernel
theorem dX1_init_1 : decode cX1_init 1 = .ok (.invokespecial 3, 3) := by decide +kernel
theorem dX1_init_4 : decode cX1_init 4 = .ok (.aload_n 0, 1) := by decide +kernel
theorem dX1_init_5 : decode cX1_init 5 = .ok (.getstatic 9, 3) := by decide +kernel
theorem dX1_init_8 : decode cX1_init 8 = .ok (.bipush 6, 2) := by decide +kernel
theorem dX1_init_10 : decode cX1_init 10 = .ok (.iaload, 1) := by decide +kernel
theorem dX1_init_11 : decode cX1_init 11 = .ok (.newarray .int, 2) := by decide +kernel
theorem dX1_init_13 : decode cX1_init 13 = .ok (.putfield 13, 3) := by decide +kernel
theorem dX1_init_16 : decode cX1_init 16 = .ok (.aload_n 0, 1) := by decide +kernel
theorem dX1_init_17 : decode cX1_init 17 = .ok (.getstatic 9, 3) := by decide +kernel
theorem dX1_init_20 : decode cX1_init 20 = .ok (.bipush 6, 2) := by decide +kernel
theorem dX1_init_22 : decode cX1_init 22 = .ok (.iaload, 1) := by decide +kernel
theorem dX1_init_23 : decode cX1_init 23 = .ok (.newarray .int, 2) := by decide +kernel
theorem dX1_init_25 : decode cX1_init 25 = .ok (.putfield 18, 3) := by decide +kernel
theorem dX1_init_28 : decode cX1_init 28 = .ok (.aload_n 0, 1) := by decide +kernel
theorem dX1_init_29 : decode cX1_init 29 = .ok (.getstatic 9, 3) := by decide +kernel
theorem dX1_init_32 : decode cX1_init 32 = .ok (.bipush 6, 2) := by decide +kernel
theorem dX1_init_34 : decode cX1_init 34 = .ok (.iaload, 1) := by decide +kernel
theorem dX1_init_35 : decode cX1_init 35 = .ok (.getstatic 9, 3) := by decide +kernel
theorem dX1_init_38 : decode cX1_init 38 = .ok (.iconst 2, 1) := by decide +kernel
theorem dX1_init_39 : decode cX1_init 39 = .ok (.iaload, 1) := by decide +kernel
theorem dX1_init_40 : decode cX1_init 40 = .ok (.multianewarray 21 2, 4) := by decide +kernel
theorem dX1_init_44 : decode cX1_init 44 = .ok (.putfield 23, 3) := by decide +kernel
theorem dX1_init_47 : decode cX1_init 47 = .ok (.return_, 1) := by decide +kernel
theorem dX1_seek_0 : decode cX1_seek 0 = .ok (.aload_n 0, 1) := by decide +kernel
theorem dX1_seek_1 : decode cX1_seek 1 = .ok (.aload_n 1, 1) := by decide +kernel
theorem dX1_seek_2 : decode cX1_seek 2 = .ok (.getfield 26, 3) := by decide +kernel
theorem dX1_seek_5 : decode cX1_seek 5 = .ok (.bipush 6, 2) := by decide +kernel
theorem dX1_seek_7 : decode cX1_seek 7 = .ok (.iaload, 1) := by decide +kernel
theorem dX1_seek_8 : decode cX1_seek 8 = .ok (.aload_n 0, 1) := by decide +kernel
theorem dX1_seek_9 : decode cX1_seek 9 = .ok (.getfield 13, 3) := by decide +kernel
theorem dX1_seek_12 : decode cX1_seek 12 = .ok (.arraylength, 1) := by decide +kernel
theorem dX1_seek_13 : decode cX1_seek 13 = .ok (.invokestatic 31, 3) := by decide +kernel
theorem dX1_seek_16 : decode cX1_seek 16 = .ok (.putfield 37, 3) := by decide +kernel
theorem dX1_seek_19 : decode cX1_seek 19 = .ok (.aload_n 0, 1) := by decide +kernel
theorem dX1_seek_20 : decode cX1_seek 20 = .ok (.iconst 0, 1) := by decide +kernel
theorem dX1_seek_21 : decode cX1_seek 21 = .ok (.putfield 41, 3) := by decide +kernel
theorem dX1_seek_24 : decode cX1_seek 24 = .ok (.iconst 0, 1) := by decide +kernel
theorem dX1_seek_25 : decode cX1_seek 25 = .ok (.istore_n 2, 1) := by decide +kernel
theorem dX1_seek_26 : decode cX1_seek 26 = .ok (.iload_n 2, 1) := by decide +kernel
theorem dX1_seek_27 : decode cX1_seek 27 = .ok (.aload_n 0, 1) := by decide +kernel
theorem dX1_seek_28 : decode cX1_seek 28 = .ok (.getfield 13, 3) := by decide +kernel
theorem dX1_seek_31 : decode cX1_seek 31 = .ok (.arraylength, 1) := by decide +kernel
theorem dX1_seek_32 : decode cX1_seek 32 = .ok (.if_icmp .ge 35, 3) := by decide +kernel
theorem dX1_seek_35 : decode cX1_seek 35 = .ok (.iconst 0, 1) := by decide +kernel
theorem dX1_seek_36 : decode cX1_seek 36 = .ok (.istore_n 3, 1) := by decide +kernel
theorem dX1_seek_37 : decode cX1_seek 37 = .ok (.iload_n 3, 1) := by decide +kernel
theorem dX1_seek_38 : decode cX1_seek 38 = .ok (.getstatic 9, 3) := by decide +kernel
theorem dX1_seek_41 : decode cX1_seek 41 = .ok (.iconst 2, 1) := by decide +kernel
theorem dX1_seek_42 : decode cX1_seek 42 = .ok (.iaload, 1) := by decide +kernel
theorem dX1_seek_43 : decode cX1_seek 43 = .ok (.if_icmp .ge 18, 3) := by decide +kernel
theorem dX1_seek_46 : decode cX1_seek 46 = .ok (.aload_n 0, 1) := by decide +kernel
theorem dX1_seek_47 : decode cX1_seek 47 = .ok (.getfield 23, 3) := by decide +kernel
theorem dX1_seek_50 : decode cX1_seek 50 = .ok (.iload_n 2, 1) := by decide +kernel
theorem dX1_seek_51 : decode cX1_seek 51 = .ok (.aaload, 1) := by decide +kernel
theorem dX1_seek_52 : decode cX1_seek 52 = .ok (.iload_n 3, 1) := by decide +kernel
theorem dX1_seek_53 : decode cX1_seek 53 = .ok (.iconst 0, 1) := by decide +kernel
theorem dX1_seek_54 : decode cX1_seek 54 = .ok (.iastore, 1) := by decide +kernel
theorem dX1_seek_55 : decode cX1_seek 55 = .ok (.iinc 3 1, 3) := by decide +kernel
theorem dX1_seek_58 : decode cX1_seek 58 = .ok (.goto (-21), 3) := by decide +kernel
theorem dX1_seek_61 : decode cX1_seek 61 = .ok (.iinc 2 1, 3) := by decide +kernel
theorem dX1_seek_64 : decode cX1_seek 64 = .ok (.goto (-38), 3) := by decide +kernel
theorem dX1_seek_67 : decode cX1_seek 67 = .ok (.aload_n 0, 1) := by decide +kernel
theorem dX1_seek_68 : decode cX1_seek 68 = .ok (.getfield 37, 3) := by decide +kernel
theorem dX1_seek_71 : decode cX1_seek 71 = .ok (.ifCond .le 10, 3) := by decide +kernel
theorem dX1_seek_74 : decode cX1_seek 74 = .ok (.aload_n 0, 1) := by decide +kernel
theorem dX1_seek_75 : decode cX1_seek 75 = .ok (.aload_n 1, 1) := by decide +kernel
theorem dX1_seek_76 : decode cX1_seek 76 = .ok (.iconst 0, 1) := by decide +kernel
theorem dX1_seek_77 : decode cX1_seek 77 = .ok (.iconst 0, 1) := by decide +kernel
theorem dX1_seek_78 : decode cX1_seek 78 = .ok (.invokevirtual 44, 3) := by decide +kernel
theorem dX1_seek_81 : decode cX1_seek 81 = .ok (.return_, 1) := by decide +kernel
theorem dX1_extend_0 : decode cX1_extend 0 = .ok (.iload_n 2, 1) := by decide +kernel
theorem dX1_extend_1 : decode cX1_extend 1 = .ok (.aload_n 0, 1) := by decide +kernel
theorem dX1_extend_2 : decode cX1_extend 2 = .ok (.getfield 37, 3) := by decide +kernel
theorem dX1_extend_5 : decode cX1_extend 5 = .ok (.if_icmp .lt 8, 3) := by decide +kernel
theorem dX1_extend_8 : decode cX1_extend 8 = .ok (.aload_n 0, 1) := by decide +kernel
theorem dX1_extend_9 : decode cX1_extend 9 = .ok (.invokevirtual 48, 3) := by decide +kernel
theorem dX1_extend_12 : decode cX1_extend 12 = .ok (.return_, 1) := by decide +kernel
theorem dX1_extend_13 : decode cX1_extend 13 = .ok (.aload_n 1, 1) := by decide +kernel
theorem dX1_extend_14 : decode cX1_extend 14 = .ok (.iload_n 2, 1) := by decide +kernel
theorem dX1_extend_15 : decode cX1_extend 15 = .ok (.invokevirtual 51, 3) := by decide +kernel
theorem dX1_extend_18 : decode cX1_extend 18 = .ok (.iload_n 3, 1) := by decide +kernel
theorem dX1_extend_19 : decode cX1_extend 19 = .ok (.iconst (-1), 1) := by decide +kernel
theorem dX1_extend_20 : decode cX1_extend 20 = .ok (.ixor, 1) := by decide +kernel
theorem dX1_extend_21 : decode cX1_extend 21 = .ok (.iand, 1) := by decide +kernel
theorem dX1_extend_22 : decode cX1_extend 22 = .ok (.istore 4, 2) := by decide +kernel
theorem dX1_extend_24 : decode cX1_extend 24 = .ok (.iconst 0, 1) := by decide +kernel
theorem dX1_extend_25 : decode cX1_extend 25 = .ok (.istore 5, 2) := by decide +kernel
theorem dX1_extend_27 : decode cX1_extend 27 = .ok (.iload 5, 2) := by decide +kernel
theorem dX1_extend_29 : decode cX1_extend 29 = .ok (.aload_n 1, 1) := by decide +kernel
theorem dX1_extend_30 : decode cX1_extend 30 = .ok (.getfield 26, 3) := by decide +kernel
theorem dX1_extend_33 : decode cX1_extend 33 = .ok (.iconst 2, 1) := by decide +kernel
theorem dX1_extend_34 : decode cX1_extend 34 = .ok (.iaload, 1) := by decide +kernel
theorem dX1_extend_35 : decode cX1_extend 35 = .ok (.if_icmp .ge 41, 3) := by decide +kernel
theorem dX1_extend_38 : decode cX1_extend 38 = .ok (.iload 4, 2) := by decide +kernel
theorem dX1_extend_40 : decode cX1_extend 40 = .ok (.iload 5, 2) := by decide +kernel
theorem dX1_extend_42 : decode cX1_extend 42 = .ok (.ishr, 1) := by decide +kernel
theorem dX1_extend_43 : decode cX1_extend 43 = .ok (.iconst 1, 1) := by decide +kernel
theorem dX1_extend_44 : decode cX1_extend 44 = .ok (.iand, 1) := by decide +kernel
theorem dX1_extend_45 : decode cX1_extend 45 = .ok (.ifCond .eq 25, 3) := by decide +kernel
theorem dX1_extend_48 : decode cX1_extend 48 = .ok (.aload_n 0, 1) := by decide +kernel
theorem dX1_extend_49 : decode cX1_extend 49 = .ok (.getfield 13, 3) := by decide +kernel
theorem dX1_extend_52 : decode cX1_extend 52 = .ok (.iload_n 2, 1) := by decide +kernel
theorem dX1_extend_53 : decode cX1_extend 53 = .ok (.iload 5, 2) := by decide +kernel
theorem dX1_extend_55 : decode cX1_extend 55 = .ok (.iastore, 1) := by decide +kernel
theorem dX1_extend_56 : decode cX1_extend 56 = .ok (.aload_n 0, 1) := by decide +kernel
theorem dX1_extend_57 : decode cX1_extend 57 = .ok (.aload_n 1, 1) := by decide +kernel
theorem dX1_extend_58 : decode cX1_extend 58 = .ok (.iload_n 2, 1) := by decide +kernel
theorem dX1_extend_59 : decode cX1_extend 59 = .ok (.iconst 1, 1) := by decide +kernel
theorem dX1_extend_60 : decode cX1_extend 60 = .ok (.iadd, 1) := by decide +kernel
theorem dX1_extend_61 : decode cX1_extend 61 = .ok (.iload_n 3, 1) := by decide +kernel
theorem dX1_extend_62 : decode cX1_extend 62 = .ok (.iconst 1, 1) := by decide +kernel
theorem dX1_extend_63 : decode cX1_extend 63 = .ok (.iload 5, 2) := by decide +kernel
theorem dX1_extend_65 : decode cX1_extend 65 = .ok (.ishl, 1) := by decide +kernel
theorem dX1_extend_66 : decode cX1_extend 66 = .ok (.ior, 1) := by decide +kernel
theorem dX1_extend_67 : decode cX1_extend 67 = .ok (.invokevirtual 44, 3) := by decide +kernel
theorem dX1_extend_70 : decode cX1_extend 70 = .ok (.iinc 5 1, 3) := by decide +kernel
theorem dX1_extend_73 : decode cX1_extend 73 = .ok (.goto (-46), 3) := by decide +kernel
theorem dX1_extend_76 : decode cX1_extend 76 = .ok (.return_, 1) := by decide +kernel
theorem dX1_settle_0 : decode cX1_settle 0 = .ok (.iconst 0, 1) := by decide +kernel
theorem dX1_settle_1 : decode cX1_settle 1 = .ok (.istore_n 1, 1) := by decide +kernel
theorem dX1_settle_2 : decode cX1_settle 2 = .ok (.iload_n 1, 1) := by decide +kernel
theorem dX1_settle_3 : decode cX1_settle 3 = .ok (.aload_n 0, 1) := by decide +kernel
theorem dX1_settle_4 : decode cX1_settle 4 = .ok (.getfield 37, 3) := by decide +kernel
theorem dX1_settle_7 : decode cX1_settle 7 = .ok (.if_icmp .ge 45, 3) := by decide +kernel
theorem dX1_settle_10 : decode cX1_settle 10 = .ok (.aload_n 0, 1) := by decide +kernel
theorem dX1_settle_11 : decode cX1_settle 11 = .ok (.getfield 41, 3) := by decide +kernel
theorem dX1_settle_14 : decode cX1_settle 14 = .ok (.ifCond .ne 15, 3) := by decide +kernel
theorem dX1_settle_17 : decode cX1_settle 17 = .ok (.aload_n 0, 1) := by decide +kernel
theorem dX1_settle_18 : decode cX1_settle 18 = .ok (.getfield 18, 3) := by decide +kernel
theorem dX1_settle_21 : decode cX1_settle 21 = .ok (.iload_n 1, 1) := by decide +kernel
theorem dX1_settle_22 : decode cX1_settle 22 = .ok (.aload_n 0, 1) := by decide +kernel
theorem dX1_settle_23 : decode cX1_settle 23 = .ok (.getfield 13, 3) := by decide +kernel
theorem dX1_settle_26 : decode cX1_settle 26 = .ok (.iload_n 1, 1) := by decide +kernel
theorem dX1_settle_27 : decode cX1_settle 27 = .ok (.iaload, 1) := by decide +kernel
theorem dX1_settle_28 : decode cX1_settle 28 = .ok (.iastore, 1) := by decide +kernel
theorem dX1_settle_29 : decode cX1_settle 29 = .ok (.aload_n 0, 1) := by decide +kernel
theorem dX1_settle_30 : decode cX1_settle 30 = .ok (.getfield 23, 3) := by decide +kernel
theorem dX1_settle_33 : decode cX1_settle 33 = .ok (.iload_n 1, 1) := by decide +kernel
theorem dX1_settle_34 : decode cX1_settle 34 = .ok (.aaload, 1) := by decide +kernel
theorem dX1_settle_35 : decode cX1_settle 35 = .ok (.aload_n 0, 1) := by decide +kernel
theorem dX1_settle_36 : decode cX1_settle 36 = .ok (.getfield 13, 3) := by decide +kernel
theorem dX1_settle_39 : decode cX1_settle 39 = .ok (.iload_n 1, 1) := by decide +kernel
theorem dX1_settle_40 : decode cX1_settle 40 = .ok (.iaload, 1) := by decide +kernel
theorem dX1_settle_41 : decode cX1_settle 41 = .ok (.dup2, 1) := by decide +kernel
theorem dX1_settle_42 : decode cX1_settle 42 = .ok (.iaload, 1) := by decide +kernel
theorem dX1_settle_43 : decode cX1_settle 43 = .ok (.iconst 1, 1) := by decide +kernel
theorem dX1_settle_44 : decode cX1_settle 44 = .ok (.iadd, 1) := by decide +kernel
theorem dX1_settle_45 : decode cX1_settle 45 = .ok (.iastore, 1) := by decide +kernel
theorem dX1_settle_46 : decode cX1_settle 46 = .ok (.iinc 1 1, 3) := by decide +kernel
theorem dX1_settle_49 : decode cX1_settle 49 = .ok (.goto (-47), 3) := by decide +kernel
theorem dX1_settle_52 : decode cX1_settle 52 = .ok (.aload_n 0, 1) := by decide +kernel
theorem dX1_settle_53 : decode cX1_settle 53 = .ok (.dup, 1) := by decide +kernel
theorem dX1_settle_54 : decode cX1_settle 54 = .ok (.getfield 41, 3) := by decide +kernel
theorem dX1_settle_57 : decode cX1_settle 57 = .ok (.iconst 1, 1) := by decide +kernel
theorem dX1_settle_58 : decode cX1_settle 58 = .ok (.iadd, 1) := by decide +kernel
theorem dX1_settle_59 : decode cX1_settle 59 = .ok (.putfield 41, 3) := by decide +kernel
theorem dX1_settle_62 : decode cX1_settle 62 = .ok (.return_, 1) := by decide +kernel
theorem dX1_possible_0 : decode cX1_possible 0 = .ok (.iconst 0, 1) := by decide +kernel
theorem dX1_possible_1 : decode cX1_possible 1 = .ok (.istore_n 2, 1) := by decide +kernel
theorem dX1_possible_2 : decode cX1_possible 2 = .ok (.iconst 0, 1) := by decide +kernel
theorem dX1_possible_3 : decode cX1_possible 3 = .ok (.istore_n 3, 1) := by decide +kernel
theorem dX1_possible_4 : decode cX1_possible 4 = .ok (.iload_n 3, 1) := by decide +kernel
theorem dX1_possible_5 : decode cX1_possible 5 = .ok (.getstatic 9, 3) := by decide +kernel
theorem dX1_possible_8 : decode cX1_possible 8 = .ok (.iconst 2, 1) := by decide +kernel
theorem dX1_possible_9 : decode cX1_possible 9 = .ok (.iaload, 1) := by decide +kernel
theorem dX1_possible_10 : decode cX1_possible 10 = .ok (.if_icmp .ge 26, 3) := by decide +kernel
theorem dX1_possible_13 : decode cX1_possible 13 = .ok (.aload_n 0, 1) := by decide +kernel
theorem dX1_possible_14 : decode cX1_possible 14 = .ok (.getfield 23, 3) := by decide +kernel
theorem dX1_possible_17 : decode cX1_possible 17 = .ok (.iload_n 1, 1) := by decide +kernel
theorem dX1_possible_18 : decode cX1_possible 18 = .ok (.aaload, 1) := by decide +kernel
theorem dX1_possible_19 : decode cX1_possible 19 = .ok (.iload_n 3, 1) := by decide +kernel
theorem dX1_possible_20 : decode cX1_possible 20 = .ok (.iaload, 1) := by decide +kernel
theorem dX1_possible_21 : decode cX1_possible 21 = .ok (.ifCond .le 9, 3) := by decide +kernel
theorem dX1_possible_24 : decode cX1_possible 24 = .ok (.iload_n 2, 1) := by decide +kernel
theorem dX1_possible_25 : decode cX1_possible 25 = .ok (.iconst 1, 1) := by decide +kernel
theorem dX1_possible_26 : decode cX1_possible 26 = .ok (.iload_n 3, 1) := by decide +kernel
theorem dX1_possible_27 : decode cX1_possible 27 = .ok (.ishl, 1) := by decide +kernel
theorem dX1_possible_28 : decode cX1_possible 28 = .ok (.ior, 1) := by decide +kernel
theorem dX1_possible_29 : decode cX1_possible 29 = .ok (.istore_n 2, 1) := by decide +kernel
theorem dX1_possible_30 : decode cX1_possible 30 = .ok (.iinc 3 1, 3) := by decide +kernel
theorem dX1_possible_33 : decode cX1_possible 33 = .ok (.goto (-29), 3) := by decide +kernel
theorem dX1_possible_36 : decode cX1_possible 36 = .ok (.iload_n 2, 1) := by decide +kernel
theorem dX1_possible_37 : decode cX1_possible 37 = .ok (.ireturn, 1) := by decide +kernel
theorem dX1_certain_0 : decode cX1_certain 0 = .ok (.iconst 0, 1) := by decide +kernel
theorem dX1_certain_1 : decode cX1_certain 1 = .ok (.istore_n 2, 1) := by decide +kernel
theorem dX1_certain_2 : decode cX1_certain 2 = .ok (.iload_n 2, 1) := by decide +kernel
theorem dX1_certain_3 : decode cX1_certain 3 = .ok (.getstatic 9, 3) := by decide +kernel
theorem dX1_certain_6 : decode cX1_certain 6 = .ok (.iconst 2, 1) := by decide +kernel
theorem dX1_certain_7 : decode cX1_certain 7 = .ok (.iaload, 1) := by decide +kernel
theorem dX1_certain_8 : decode cX1_certain 8 = .ok (.if_icmp .ge 33, 3) := by decide +kernel
theorem dX1_certain_11 : decode cX1_certain 11 = .ok (.aload_n 0, 1) := by decide +kernel
theorem dX1_certain_12 : decode cX1_certain 12 = .ok (.getfield 41, 3) := by decide +kernel
theorem dX1_certain_15 : decode cX1_certain 15 = .ok (.ifCond .le 20, 3) := by decide +kernel
theorem dX1_certain_18 : decode cX1_certain 18 = .ok (.aload_n 0, 1) := by decide +kernel
theorem dX1_certain_19 : decode cX1_certain 19 = .ok (.getfield 23, 3) := by decide +kernel
theorem dX1_certain_22 : decode cX1_certain 22 = .ok (.iload_n 1, 1) := by decide +kernel
theorem dX1_certain_23 : decode cX1_certain 23 = .ok (.aaload, 1) := by decide +kernel
theorem dX1_certain_24 : decode cX1_certain 24 = .ok (.iload_n 2, 1) := by decide +kernel
theorem dX1_certain_25 : decode cX1_certain 25 = .ok (.iaload, 1) := by decide +kernel
theorem dX1_certain_26 : decode cX1_certain 26 = .ok (.aload_n 0, 1) := by decide +kernel
theorem dX1_certain_27 : decode cX1_certain 27 = .ok (.getfield 41, 3) := by decide +kernel
theorem dX1_certain_30 : decode cX1_certain 30 = .ok (.if_icmp .ne 5, 3) := by decide +kernel
theorem dX1_certain_33 : decode cX1_certain 33 = .ok (.iload_n 2, 1) := by decide +kernel
theorem dX1_certain_34 : decode cX1_certain 34 = .ok (.ireturn, 1) := by decide +kernel
theorem dX1_certain_35 : decode cX1_certain 35 = .ok (.iinc 2 1, 3) := by decide +kernel
theorem dX1_certain_38 : decode cX1_certain 38 = .ok (.goto (-36), 3) := by decide +kernel
theorem dX1_certain_41 : decode cX1_certain 41 = .ok (.bipush (-2), 2) := by decide +kernel
theorem dX1_certain_43 : decode cX1_certain 43 = .ok (.ireturn, 1) := by decide +kernel
theorem dX1_leftAtMost_0 : decode cX1_leftAtMost 0 = .ok (.iconst 0, 1) := by decide +kernel
theorem dX1_leftAtMost_1 : decode cX1_leftAtMost 1 = .ok (.istore_n 2, 1) := by decide +kernel
theorem dX1_leftAtMost_2 : decode cX1_leftAtMost 2 = .ok (.iconst 0, 1) := by decide +kernel
theorem dX1_leftAtMost_3 : decode cX1_leftAtMost 3 = .ok (.istore_n 3, 1) := by decide +kernel
theorem dX1_leftAtMost_4 : decode cX1_leftAtMost 4 = .ok (.iload_n 3, 1) := by decide +kernel
theorem dX1_leftAtMost_5 : decode cX1_leftAtMost 5 = .ok (.getstatic 9, 3) := by decide +kernel
theorem dX1_leftAtMost_8 : decode cX1_leftAtMost 8 = .ok (.iconst 2, 1) := by decide +kernel
theorem dX1_leftAtMost_9 : decode cX1_leftAtMost 9 = .ok (.iaload, 1) := by decide +kernel
theorem dX1_leftAtMost_10 : decode cX1_leftAtMost 10 = .ok (.if_icmp .ge 22, 3) := by decide +kernel
theorem dX1_leftAtMost_13 : decode cX1_leftAtMost 13 = .ok (.iload_n 2, 1) := by decide +kernel
theorem dX1_leftAtMost_14 : decode cX1_leftAtMost 14 = .ok (.aload_n 0, 1) := by decide +kernel
theorem dX1_leftAtMost_15 : decode cX1_leftAtMost 15 = .ok (.getfield 23, 3) := by decide +kernel
theorem dX1_leftAtMost_18 : decode cX1_leftAtMost 18 = .ok (.iload_n 1, 1) := by decide +kernel
theorem dX1_leftAtMost_19 : decode cX1_leftAtMost 19 = .ok (.aaload, 1) := by decide +kernel
theorem dX1_leftAtMost_20 : decode cX1_leftAtMost 20 = .ok (.iload_n 3, 1) := by decide +kernel
theorem dX1_leftAtMost_21 : decode cX1_leftAtMost 21 = .ok (.iaload, 1) := by decide +kernel
theorem dX1_leftAtMost_22 : decode cX1_leftAtMost 22 = .ok (.invokestatic 55, 3) := by decide +kernel
theorem dX1_leftAtMost_25 : decode cX1_leftAtMost 25 = .ok (.istore_n 2, 1) := by decide +kernel
theorem dX1_leftAtMost_26 : decode cX1_leftAtMost 26 = .ok (.iinc 3 1, 3) := by decide +kernel
theorem dX1_leftAtMost_29 : decode cX1_leftAtMost 29 = .ok (.goto (-25), 3) := by decide +kernel
theorem dX1_leftAtMost_32 : decode cX1_leftAtMost 32 = .ok (.iload_n 2, 1) := by decide +kernel
theorem dX1_leftAtMost_33 : decode cX1_leftAtMost 33 = .ok (.ireturn, 1) := by decide +kernel
theorem dX1_bestQuestion_0 : decode cX1_bestQuestion 0 = .ok (.iconst 0, 1) := by decide +kernel
theorem dX1_bestQuestion_1 : decode cX1_bestQuestion 1 = .ok (.istore_n 1, 1) := by decide +kernel
theorem dX1_bestQuestion_2 : decode cX1_bestQuestion 2 = .ok (.iconst 1, 1) := by decide +kernel
theorem dX1_bestQuestion_3 : decode cX1_bestQuestion 3 = .ok (.istore_n 2, 1) := by decide +kernel
theorem dX1_bestQuestion_4 : decode cX1_bestQuestion 4 = .ok (.iload_n 2, 1) := by decide +kernel
theorem dX1_bestQuestion_5 : decode cX1_bestQuestion 5 = .ok (.aload_n 0, 1) := by decide +kernel
theorem dX1_bestQuestion_6 : decode cX1_bestQuestion 6 = .ok (.getfield 37, 3) := by decide +kernel
theorem dX1_bestQuestion_9 : decode cX1_bestQuestion 9 = .ok (.if_icmp .ge 24, 3) := by decide +kernel
theorem dX1_bestQuestion_12 : decode cX1_bestQuestion 12 = .ok (.aload_n 0, 1) := by decide +kernel
theorem dX1_bestQuestion_13 : decode cX1_bestQuestion 13 = .ok (.iload_n 2, 1) := by decide +kernel
theorem dX1_bestQuestion_14 : decode cX1_bestQuestion 14 = .ok (.invokevirtual 58, 3) := by decide +kernel
theorem dX1_bestQuestion_17 : decode cX1_bestQuestion 17 = .ok (.aload_n 0, 1) := by decide +kernel
theorem dX1_bestQuestion_18 : decode cX1_bestQuestion 18 = .ok (.iload_n 1, 1) := by decide +kernel
theorem dX1_bestQuestion_19 : decode cX1_bestQuestion 19 = .ok (.invokevirtual 58, 3) := by decide +kernel
theorem dX1_bestQuestion_22 : decode cX1_bestQuestion 22 = .ok (.if_icmp .ge 5, 3) := by decide +kernel
theorem dX1_bestQuestion_25 : decode cX1_bestQuestion 25 = .ok (.iload_n 2, 1) := by decide +kernel
theorem dX1_bestQuestion_26 : decode cX1_bestQuestion 26 = .ok (.istore_n 1, 1) := by decide +kernel
theorem dX1_bestQuestion_27 : decode cX1_bestQuestion 27 = .ok (.iinc 2 1, 3) := by decide +kernel
theorem dX1_bestQuestion_30 : decode cX1_bestQuestion 30 = .ok (.goto (-26), 3) := by decide +kernel
theorem dX1_bestQuestion_33 : decode cX1_bestQuestion 33 = .ok (.iload_n 1, 1) := by decide +kernel
theorem dX1_bestQuestion_34 : decode cX1_bestQuestion 34 = .ok (.ireturn, 1) := by decide +kernel
theorem dX2_init_0 : decode cX2_init 0 = .ok (.aload_n 0, 1) := by decide +kernel
theorem dX2_init_1 : decode cX2_init 1 = .ok (.invokespecial 3, 3) := by decide +kernel
theorem dX2_init_4 : decode cX2_init 4 = .ok (.aload_n 0, 1) := by decide +kernel
theorem dX2_init_5 : decode cX2_init 5 = .ok (.new 9, 3) := by decide +kernel
theorem dX2_init_8 : decode cX2_init 8 = .ok (.dup, 1) := by decide +kernel
theorem dX2_init_9 : decode cX2_init 9 = .ok (.invokespecial 11, 3) := by decide +kernel
theorem dX2_init_12 : decode cX2_init 12 = .ok (.putfield 12, 3) := by decide +kernel
theorem dX2_init_15 : decode cX2_init 15 = .ok (.aload_n 0, 1) := by decide +kernel
theorem dX2_init_16 : decode cX2_init 16 = .ok (.iconst 0, 1) := by decide +kernel
theorem dX2_init_17 : decode cX2_init 17 = .ok (.putfield 18, 3) := by decide +kernel
theorem dX2_init_20 : decode cX2_init 20 = .ok (.return_, 1) := by decide +kernel
theorem dX2_live_0 : decode cX2_live 0 = .ok (.aload_n 0, 1) := by decide +kernel
theorem dX2_live_1 : decode cX2_live 1 = .ok (.getfield 12, 3) := by decide +kernel
theorem dX2_live_4 : decode cX2_live 4 = .ok (.aload_n 2, 1) := by decide +kernel
theorem dX2_live_5 : decode cX2_live 5 = .ok (.invokevirtual 22, 3) := by decide +kernel
theorem dX2_live_8 : decode cX2_live 8 = .ok (.aload_n 0, 1) := by decide +kernel
theorem dX2_live_9 : decode cX2_live 9 = .ok (.getfield 12, 3) := by decide +kernel
theorem dX2_live_12 : decode cX2_live 12 = .ok (.iload_n 3, 1) := by decide +kernel
theorem dX2_live_13 : decode cX2_live 13 = .ok (.putfield 26, 3) := by decide +kernel
theorem dX2_live_16 : decode cX2_live 16 = .ok (.aload_n 0, 1) := by decide +kernel
theorem dX2_live_17 : decode cX2_live 17 = .ok (.iconst 0, 1) := by decide +kernel
theorem dX2_live_18 : decode cX2_live 18 = .ok (.putfield 18, 3) := by decide +kernel
theorem dX2_live_21 : decode cX2_live 21 = .ok (.iconst 1, 1) := by decide +kernel
theorem dX2_live_22 : decode cX2_live 22 = .ok (.istore 5, 2) := by decide +kernel
theorem dX2_live_24 : decode cX2_live 24 = .ok (.iload 5, 2) := by decide +kernel
theorem dX2_live_26 : decode cX2_live 26 = .ok (.iload 4, 2) := by decide +kernel
theorem dX2_live_28 : decode cX2_live 28 = .ok (.if_icmp .gt 40, 3) := by decide +kernel
theorem dX2_live_31 : decode cX2_live 31 = .ok (.aload_n 0, 1) := by decide +kernel
theorem dX2_live_32 : decode cX2_live 32 = .ok (.getfield 12, 3) := by decide +kernel
theorem dX2_live_35 : decode cX2_live 35 = .ok (.invokevirtual 29, 3) := by decide +kernel
theorem dX2_live_38 : decode cX2_live 38 = .ok (.ifCond .ne 30, 3) := by decide +kernel
theorem dX2_live_41 : decode cX2_live 41 = .ok (.aload_n 0, 1) := by decide +kernel
theorem dX2_live_42 : decode cX2_live 42 = .ok (.aload_n 1, 1) := by decide +kernel
theorem dX2_live_43 : decode cX2_live 43 = .ok (.invokevirtual 33, 3) := by decide +kernel
theorem dX2_live_46 : decode cX2_live 46 = .ok (.aload_n 0, 1) := by decide +kernel
theorem dX2_live_47 : decode cX2_live 47 = .ok (.getfield 12, 3) := by decide +kernel
theorem dX2_live_50 : decode cX2_live 50 = .ok (.invokevirtual 29, 3) := by decide +kernel
theorem dX2_live_53 : decode cX2_live 53 = .ok (.ifCond .eq 9, 3) := by decide +kernel
theorem dX2_live_56 : decode cX2_live 56 = .ok (.aload_n 0, 1) := by decide +kernel
theorem dX2_live_57 : decode cX2_live 57 = .ok (.iload 5, 2) := by decide +kernel
theorem dX2_live_59 : decode cX2_live 59 = .ok (.putfield 18, 3) := by decide +kernel
theorem dX2_live_62 : decode cX2_live 62 = .ok (.iinc 5 1, 3) := by decide +kernel
theorem dX2_live_65 : decode cX2_live 65 = .ok (.goto (-41), 3) := by decide +kernel
theorem dX2_live_68 : decode cX2_live 68 = .ok (.return_, 1) := by decide +kernel
theorem dX2_liveLanding_0 : decode cX2_liveLanding 0 = .ok (.aload_n 1, 1) := by decide +kernel
theorem dX2_liveLanding_1 : decode cX2_liveLanding 1 = .ok (.aload_n 1, 1) := by decide +kernel
theorem dX2_liveLanding_2 : decode cX2_liveLanding 2 = .ok (.aload_n 0, 1) := by decide +kernel
theorem dX2_liveLanding_3 : decode cX2_liveLanding 3 = .ok (.getfield 12, 3) := by decide +kernel
theorem dX2_liveLanding_6 : decode cX2_liveLanding 6 = .ok (.getfield 37, 3) := by decide +kernel
theorem dX2_liveLanding_9 : decode cX2_liveLanding 9 = .ok (.invokevirtual 40, 3) := by decide +kernel
theorem dX2_liveLanding_12 : decode cX2_liveLanding 12 = .ok (.aload_n 0, 1) := by decide +kernel
theorem dX2_liveLanding_13 : decode cX2_liveLanding 13 = .ok (.getfield 12, 3) := by decide +kernel
theorem dX2_liveLanding_16 : decode cX2_liveLanding 16 = .ok (.getfield 46, 3) := by decide +kernel
theorem dX2_liveLanding_19 : decode cX2_liveLanding 19 = .ok (.aload_n 0, 1) := by decide +kernel
theorem dX2_liveLanding_20 : decode cX2_liveLanding 20 = .ok (.getfield 12, 3) := by decide +kernel
theorem dX2_liveLanding_23 : decode cX2_liveLanding 23 = .ok (.getfield 49, 3) := by decide +kernel
theorem dX2_liveLanding_26 : decode cX2_liveLanding 26 = .ok (.iconst 1, 1) := by decide +kernel
theorem dX2_liveLanding_27 : decode cX2_liveLanding 27 = .ok (.iadd, 1) := by decide +kernel
theorem dX2_liveLanding_28 : decode cX2_liveLanding 28 = .ok (.invokevirtual 52, 3) := by decide +kernel
theorem dX2_liveLanding_31 : decode cX2_liveLanding 31 = .ok (.istore_n 2, 1) := by decide +kernel
theorem dX2_liveLanding_32 : decode cX2_liveLanding 32 = .ok (.iload_n 2, 1) := by decide +kernel
theorem dX2_liveLanding_33 : decode cX2_liveLanding 33 = .ok (.bipush (-2), 2) := by decide +kernel
theorem dX2_liveLanding_35 : decode cX2_liveLanding 35 = .ok (.if_icmp .ne 19, 3) := by decide +kernel
theorem dX2_liveLanding_38 : decode cX2_liveLanding 38 = .ok (.aload_n 0, 1) := by decide +kernel
theorem dX2_liveLanding_39 : decode cX2_liveLanding 39 = .ok (.getfield 12, 3) := by decide +kernel
theorem dX2_liveLanding_42 : decode cX2_liveLanding 42 = .ok (.aload_n 1, 1) := by decide +kernel
theorem dX2_liveLanding_43 : decode cX2_liveLanding 43 = .ok (.aload_n 0, 1) := by decide +kernel
theorem dX2_liveLanding_44 : decode cX2_liveLanding 44 = .ok (.getfield 12, 3) := by decide +kernel
theorem dX2_liveLanding_47 : decode cX2_liveLanding 47 = .ok (.getfield 37, 3) := by decide +kernel
theorem dX2_liveLanding_50 : decode cX2_liveLanding 50 = .ok (.invokevirtual 56, 3) := by decide +kernel
theorem dX2_liveLanding_53 : decode cX2_liveLanding 53 = .ok (.return_, 1) := by decide +kernel
theorem dX2_liveLanding_54 : decode cX2_liveLanding 54 = .ok (.aload_n 0, 1) := by decide +kernel
theorem dX2_liveLanding_55 : decode cX2_liveLanding 55 = .ok (.getfield 12, 3) := by decide +kernel
theorem dX2_liveLanding_58 : decode cX2_liveLanding 58 = .ok (.aload_n 1, 1) := by decide +kernel
theorem dX2_liveLanding_59 : decode cX2_liveLanding 59 = .ok (.aload_n 1, 1) := by decide +kernel
theorem dX2_liveLanding_60 : decode cX2_liveLanding 60 = .ok (.getfield 60, 3) := by decide +kernel
theorem dX2_liveLanding_63 : decode cX2_liveLanding 63 = .ok (.iload_n 2, 1) := by decide +kernel
theorem dX2_liveLanding_64 : decode cX2_liveLanding 64 = .ok (.iaload, 1) := by decide +kernel
theorem dX2_liveLanding_65 : decode cX2_liveLanding 65 = .ok (.invokevirtual 56, 3) := by decide +kernel
theorem dX2_liveLanding_68 : decode cX2_liveLanding 68 = .ok (.aload_n 0, 1) := by decide +kernel
theorem dX2_liveLanding_69 : decode cX2_liveLanding 69 = .ok (.getfield 12, 3) := by decide +kernel
theorem dX2_liveLanding_72 : decode cX2_liveLanding 72 = .ok (.aload_n 1, 1) := by decide +kernel
theorem dX2_liveLanding_73 : decode cX2_liveLanding 73 = .ok (.iload_n 2, 1) := by decide +kernel
theorem dX2_liveLanding_74 : decode cX2_liveLanding 74 = .ok (.invokevirtual 64, 3) := by decide +kernel
theorem dX2_liveLanding_77 : decode cX2_liveLanding 77 = .ok (.return_, 1) := by decide +kernel
theorem dX3_init_0 : decode cX3_init 0 = .ok (.aload_n 0, 1) := by decide +kernel
theorem dX3_init_1 : decode cX3_init 1 = .ok (.invokespecial 3, 3) := by decide +kernel
theorem dX3_init_4 : decode cX3_init 4 = .ok (.aload_n 0, 1) := by decide +kernel
theorem dX3_init_5 : decode cX3_init 5 = .ok (.iconst 0, 1) := by decide +kernel
theorem dX3_init_6 : decode cX3_init 6 = .ok (.putfield 9, 3) := by decide +kernel
theorem dX3_init_9 : decode cX3_init 9 = .ok (.aload_n 0, 1) := by decide +kernel
theorem dX3_init_10 : decode cX3_init 10 = .ok (.iconst 0, 1) := by decide +kernel
theorem dX3_init_11 : decode cX3_init 11 = .ok (.putfield 15, 3) := by decide +kernel
theorem dX3_init_14 : decode cX3_init 14 = .ok (.aload_n 0, 1) := by decide +kernel
theorem dX3_init_15 : decode cX3_init 15 = .ok (.iconst 0, 1) := by decide +kernel
theorem dX3_init_16 : decode cX3_init 16 = .ok (.putfield 18, 3) := by decide +kernel
theorem dX3_init_19 : decode cX3_init 19 = .ok (.aload_n 0, 1) := by decide +kernel
theorem dX3_init_20 : decode cX3_init 20 = .ok (.iconst 0, 1) := by decide +kernel
theorem dX3_init_21 : decode cX3_init 21 = .ok (.putfield 21, 3) := by decide +kernel
theorem dX3_init_24 : decode cX3_init 24 = .ok (.aload_n 0, 1) := by decide +kernel
theorem dX3_init_25 : decode cX3_init 25 = .ok (.bipush (-2), 2) := by decide +kernel
theorem dX3_init_27 : decode cX3_init 27 = .ok (.putfield 24, 3) := by decide +kernel
theorem dX3_init_30 : decode cX3_init 30 = .ok (.aload_n 0, 1) := by decide +kernel
theorem dX3_init_31 : decode cX3_init 31 = .ok (.iconst 0, 1) := by decide +kernel
theorem dX3_init_32 : decode cX3_init 32 = .ok (.putfield 27, 3) := by decide +kernel
theorem dX3_init_35 : decode cX3_init 35 = .ok (.return_, 1) := by decide +kernel
theorem dX3_begin_0 : decode cX3_begin 0 = .ok (.aload_n 0, 1) := by decide +kernel
theorem dX3_begin_1 : decode cX3_begin 1 = .ok (.iconst 0, 1) := by decide +kernel
theorem dX3_begin_2 : decode cX3_begin 2 = .ok (.putfield 9, 3) := by decide +kernel
theorem dX3_begin_5 : decode cX3_begin 5 = .ok (.aload_n 0, 1) := by decide +kernel
theorem dX3_begin_6 : decode cX3_begin 6 = .ok (.iconst 0, 1) := by decide +kernel
theorem dX3_begin_7 : decode cX3_begin 7 = .ok (.putfield 15, 3) := by decide +kernel
theorem dX3_begin_10 : decode cX3_begin 10 = .ok (.aload_n 0, 1) := by decide +kernel
theorem dX3_begin_11 : decode cX3_begin 11 = .ok (.iconst 0, 1) := by decide +kernel
theorem dX3_begin_12 : decode cX3_begin 12 = .ok (.putfield 18, 3) := by decide +kernel
theorem dX3_begin_15 : decode cX3_begin 15 = .ok (.aload_n 0, 1) := by decide +kernel
theorem dX3_begin_16 : decode cX3_begin 16 = .ok (.iconst 0, 1) := by decide +kernel
theorem dX3_begin_17 : decode cX3_begin 17 = .ok (.putfield 21, 3) := by decide +kernel
theorem dX3_begin_20 : decode cX3_begin 20 = .ok (.aload_n 0, 1) := by decide +kernel
theorem dX3_begin_21 : decode cX3_begin 21 = .ok (.bipush (-2), 2) := by decide +kernel
theorem dX3_begin_23 : decode cX3_begin 23 = .ok (.putfield 24, 3) := by decide +kernel
theorem dX3_begin_26 : decode cX3_begin 26 = .ok (.aload_n 0, 1) := by decide +kernel
theorem dX3_begin_27 : decode cX3_begin 27 = .ok (.iconst 0, 1) := by decide +kernel
theorem dX3_begin_28 : decode cX3_begin 28 = .ok (.putfield 27, 3) := by decide +kernel
theorem dX3_begin_31 : decode cX3_begin 31 = .ok (.return_, 1) := by decide +kernel
theorem dX3_copy_0 : decode cX3_copy 0 = .ok (.aload_n 0, 1) := by decide +kernel
theorem dX3_copy_1 : decode cX3_copy 1 = .ok (.aload_n 1, 1) := by decide +kernel
theorem dX3_copy_2 : decode cX3_copy 2 = .ok (.getfield 9, 3) := by decide +kernel
theorem dX3_copy_5 : decode cX3_copy 5 = .ok (.putfield 9, 3) := by decide +kernel
theorem dX3_copy_8 : decode cX3_copy 8 = .ok (.aload_n 0, 1) := by decide +kernel
theorem dX3_copy_9 : decode cX3_copy 9 = .ok (.aload_n 1, 1) := by decide +kernel
theorem dX3_copy_10 : decode cX3_copy 10 = .ok (.getfield 15, 3) := by decide +kernel
theorem dX3_copy_13 : decode cX3_copy 13 = .ok (.putfield 15, 3) := by decide +kernel
theorem dX3_copy_16 : decode cX3_copy 16 = .ok (.aload_n 0, 1) := by decide +kernel
theorem dX3_copy_17 : decode cX3_copy 17 = .ok (.aload_n 1, 1) := by decide +kernel
theorem dX3_copy_18 : decode cX3_copy 18 = .ok (.getfield 18, 3) := by decide +kernel
theorem dX3_copy_21 : decode cX3_copy 21 = .ok (.putfield 18, 3) := by decide +kernel
theorem dX3_copy_24 : decode cX3_copy 24 = .ok (.aload_n 0, 1) := by decide +kernel
theorem dX3_copy_25 : decode cX3_copy 25 = .ok (.aload_n 1, 1) := by decide +kernel
theorem dX3_copy_26 : decode cX3_copy 26 = .ok (.getfield 21, 3) := by decide +kernel
theorem dX3_copy_29 : decode cX3_copy 29 = .ok (.putfield 21, 3) := by decide +kernel
theorem dX3_copy_32 : decode cX3_copy 32 = .ok (.aload_n 0, 1) := by decide +kernel
theorem dX3_copy_33 : decode cX3_copy 33 = .ok (.aload_n 1, 1) := by decide +kernel
theorem dX3_copy_34 : decode cX3_copy 34 = .ok (.getfield 24, 3) := by decide +kernel
theorem dX3_copy_37 : decode cX3_copy 37 = .ok (.putfield 24, 3) := by decide +kernel
theorem dX3_copy_40 : decode cX3_copy 40 = .ok (.aload_n 0, 1) := by decide +kernel
theorem dX3_copy_41 : decode cX3_copy 41 = .ok (.aload_n 1, 1) := by decide +kernel
theorem dX3_copy_42 : decode cX3_copy 42 = .ok (.getfield 27, 3) := by decide +kernel
theorem dX3_copy_45 : decode cX3_copy 45 = .ok (.putfield 27, 3) := by decide +kernel
theorem dX3_copy_48 : decode cX3_copy 48 = .ok (.return_, 1) := by decide +kernel
theorem dX3_isFreed_0 : decode cX3_isFreed 0 = .ok (.aload_n 0, 1) := by decide +kernel
theorem dX3_isFreed_1 : decode cX3_isFreed 1 = .ok (.getfield 24, 3) := by decide +kernel
theorem dX3_isFreed_4 : decode cX3_isFreed 4 = .ok (.bipush (-2), 2) := by decide +kernel
theorem dX3_isFreed_6 : decode cX3_isFreed 6 = .ok (.if_icmp .eq 7, 3) := by decide +kernel
theorem dX3_isFreed_9 : decode cX3_isFreed 9 = .ok (.iconst 1, 1) := by decide +kernel
theorem dX3_isFreed_10 : decode cX3_isFreed 10 = .ok (.goto 4, 3) := by decide +kernel
theorem dX3_isFreed_13 : decode cX3_isFreed 13 = .ok (.iconst 0, 1) := by decide +kernel
theorem dX3_isFreed_14 : decode cX3_isFreed 14 = .ok (.ireturn, 1) := by decide +kernel
theorem dX3_hasTried_0 : decode cX3_hasTried 0 = .ok (.aload_n 0, 1) := by decide +kernel
theorem dX3_hasTried_1 : decode cX3_hasTried 1 = .ok (.getfield 18, 3) := by decide +kernel
theorem dX3_hasTried_4 : decode cX3_hasTried 4 = .ok (.iload_n 1, 1) := by decide +kernel
theorem dX3_hasTried_5 : decode cX3_hasTried 5 = .ok (.ishr, 1) := by decide +kernel
theorem dX3_hasTried_6 : decode cX3_hasTried 6 = .ok (.iconst 1, 1) := by decide +kernel
theorem dX3_hasTried_7 : decode cX3_hasTried 7 = .ok (.iand, 1) := by decide +kernel
theorem dX3_hasTried_8 : decode cX3_hasTried 8 = .ok (.ifCond .eq 7, 3) := by decide +kernel
theorem dX3_hasTried_11 : decode cX3_hasTried 11 = .ok (.iconst 1, 1) := by decide +kernel
theorem dX3_hasTried_12 : decode cX3_hasTried 12 = .ok (.goto 4, 3) := by decide +kernel
theorem dX3_hasTried_15 : decode cX3_hasTried 15 = .ok (.iconst 0, 1) := by decide +kernel
theorem dX3_hasTried_16 : decode cX3_hasTried 16 = .ok (.ireturn, 1) := by decide +kernel
theorem dX3_land_0 : decode cX3_land 0 = .ok (.aload_n 0, 1) := by decide +kernel
theorem dX3_land_1 : decode cX3_land 1 = .ok (.dup, 1) := by decide +kernel
theorem dX3_land_2 : decode cX3_land 2 = .ok (.getfield 9, 3) := by decide +kernel
theorem dX3_land_5 : decode cX3_land 5 = .ok (.iconst 1, 1) := by decide +kernel
theorem dX3_land_6 : decode cX3_land 6 = .ok (.iadd, 1) := by decide +kernel
theorem dX3_land_7 : decode cX3_land 7 = .ok (.putfield 9, 3) := by decide +kernel
theorem dX3_land_10 : decode cX3_land 10 = .ok (.aload_n 0, 1) := by decide +kernel
theorem dX3_land_11 : decode cX3_land 11 = .ok (.iload_n 2, 1) := by decide +kernel
theorem dX3_land_12 : decode cX3_land 12 = .ok (.putfield 15, 3) := by decide +kernel
theorem dX3_land_15 : decode cX3_land 15 = .ok (.aload_n 0, 1) := by decide +kernel
theorem dX3_land_16 : decode cX3_land 16 = .ok (.dup, 1) := by decide +kernel
theorem dX3_land_17 : decode cX3_land 17 = .ok (.getfield 21, 3) := by decide +kernel
theorem dX3_land_20 : decode cX3_land 20 = .ok (.aload_n 1, 1) := by decide +kernel
theorem dX3_land_21 : decode cX3_land 21 = .ok (.iload_n 2, 1) := by decide +kernel
theorem dX3_land_22 : decode cX3_land 22 = .ok (.aload_n 0, 1) := by decide +kernel
theorem dX3_land_23 : decode cX3_land 23 = .ok (.getfield 9, 3) := by decide +kernel
theorem dX3_land_26 : decode cX3_land 26 = .ok (.invokevirtual 30, 3) := by decide +kernel
theorem dX3_land_29 : decode cX3_land 29 = .ok (.ior, 1) := by decide +kernel
theorem dX3_land_30 : decode cX3_land 30 = .ok (.putfield 21, 3) := by decide +kernel
theorem dX3_land_33 : decode cX3_land 33 = .ok (.return_, 1) := by decide +kernel
theorem dX3_tryWoman_0 : decode cX3_tryWoman 0 = .ok (.aload_n 1, 1) := by decide +kernel
theorem dX3_tryWoman_1 : decode cX3_tryWoman 1 = .ok (.iload_n 2, 1) := by decide +kernel
theorem dX3_tryWoman_2 : decode cX3_tryWoman 2 = .ok (.aload_n 0, 1) := by decide +kernel
theorem dX3_tryWoman_3 : decode cX3_tryWoman 3 = .ok (.getfield 9, 3) := by decide +kernel
theorem dX3_tryWoman_6 : decode cX3_tryWoman 6 = .ok (.invokevirtual 36, 3) := by decide +kernel
theorem dX3_tryWoman_9 : decode cX3_tryWoman 9 = .ok (.istore_n 3, 1) := by decide +kernel
theorem dX3_tryWoman_10 : decode cX3_tryWoman 10 = .ok (.aload_n 0, 1) := by decide +kernel
theorem dX3_tryWoman_11 : decode cX3_tryWoman 11 = .ok (.dup, 1) := by decide +kernel
theorem dX3_tryWoman_12 : decode cX3_tryWoman 12 = .ok (.getfield 18, 3) := by decide +kernel
theorem dX3_tryWoman_15 : decode cX3_tryWoman 15 = .ok (.iconst 1, 1) := by decide +kernel
theorem dX3_tryWoman_16 : decode cX3_tryWoman 16 = .ok (.iload_n 2, 1) := by decide +kernel
theorem dX3_tryWoman_17 : decode cX3_tryWoman 17 = .ok (.ishl, 1) := by decide +kernel
theorem dX3_tryWoman_18 : decode cX3_tryWoman 18 = .ok (.ior, 1) := by decide +kernel
theorem dX3_tryWoman_19 : decode cX3_tryWoman 19 = .ok (.putfield 18, 3) := by decide +kernel
theorem dX3_tryWoman_22 : decode cX3_tryWoman 22 = .ok (.iconst 0, 1) := by decide +kernel
theorem dX3_tryWoman_23 : decode cX3_tryWoman 23 = .ok (.istore 4, 2) := by decide +kernel
theorem dX3_tryWoman_25 : decode cX3_tryWoman 25 = .ok (.iload 4, 2) := by decide +kernel
theorem dX3_tryWoman_27 : decode cX3_tryWoman 27 = .ok (.aload_n 1, 1) := by decide +kernel
theorem dX3_tryWoman_28 : decode cX3_tryWoman 28 = .ok (.getfield 39, 3) := by decide +kernel
theorem dX3_tryWoman_31 : decode cX3_tryWoman 31 = .ok (.if_icmp .ge 21, 3) := by decide +kernel
theorem dX3_tryWoman_34 : decode cX3_tryWoman 34 = .ok (.aload_n 0, 1) := by decide +kernel
theorem dX3_tryWoman_35 : decode cX3_tryWoman 35 = .ok (.invokevirtual 42, 3) := by decide +kernel
theorem dX3_tryWoman_38 : decode cX3_tryWoman 38 = .ok (.bipush 100, 2) := by decide +kernel
theorem dX3_tryWoman_40 : decode cX3_tryWoman 40 = .ok (.irem, 1) := by decide +kernel
theorem dX3_tryWoman_41 : decode cX3_tryWoman 41 = .ok (.iload_n 3, 1) := by decide +kernel
theorem dX3_tryWoman_42 : decode cX3_tryWoman 42 = .ok (.if_icmp .lt 4, 3) := by decide +kernel
theorem dX3_tryWoman_45 : decode cX3_tryWoman 45 = .ok (.return_, 1) := by decide +kernel
theorem dX3_tryWoman_46 : decode cX3_tryWoman 46 = .ok (.iinc 4 1, 3) := by decide +kernel
theorem dX3_tryWoman_49 : decode cX3_tryWoman 49 = .ok (.goto (-24), 3) := by decide +kernel
theorem dX3_tryWoman_52 : decode cX3_tryWoman 52 = .ok (.aload_n 0, 1) := by decide +kernel
theorem dX3_tryWoman_53 : decode cX3_tryWoman 53 = .ok (.iload_n 2, 1) := by decide +kernel
theorem dX3_tryWoman_54 : decode cX3_tryWoman 54 = .ok (.putfield 24, 3) := by decide +kernel
theorem dX3_tryWoman_57 : decode cX3_tryWoman 57 = .ok (.return_, 1) := by decide +kernel
theorem dX3_nextDraw_0 : decode cX3_nextDraw 0 = .ok (.aload_n 0, 1) := by decide +kernel
theorem dX3_nextDraw_1 : decode cX3_nextDraw 1 = .ok (.bipush 75, 2) := by decide +kernel
theorem dX3_nextDraw_3 : decode cX3_nextDraw 3 = .ok (.aload_n 0, 1) := by decide +kernel
theorem dX3_nextDraw_4 : decode cX3_nextDraw 4 = .ok (.getfield 27, 3) := by decide +kernel
theorem dX3_nextDraw_7 : decode cX3_nextDraw 7 = .ok (.imul, 1) := by decide +kernel
theorem dX3_nextDraw_8 : decode cX3_nextDraw 8 = .ok (.bipush 74, 2) := by decide +kernel
theorem dX3_nextDraw_10 : decode cX3_nextDraw 10 = .ok (.iadd, 1) := by decide +kernel
theorem dX3_nextDraw_11 : decode cX3_nextDraw 11 = .ok (.ldc 46, 2) := by decide +kernel
theorem dX3_nextDraw_13 : decode cX3_nextDraw 13 = .ok (.irem, 1) := by decide +kernel
theorem dX3_nextDraw_14 : decode cX3_nextDraw 14 = .ok (.putfield 27, 3) := by decide +kernel
theorem dX3_nextDraw_17 : decode cX3_nextDraw 17 = .ok (.aload_n 0, 1) := by decide +kernel
theorem dX3_nextDraw_18 : decode cX3_nextDraw 18 = .ok (.getfield 27, 3) := by decide +kernel
theorem dX3_nextDraw_21 : decode cX3_nextDraw 21 = .ok (.ireturn, 1) := by decide +kernel
theorem dX3_broughtAt_0 : decode cX3_broughtAt 0 = .ok (.iload_n 1, 1) := by decide +kernel
theorem dX3_broughtAt_1 : decode cX3_broughtAt 1 = .ok (.istore_n 2, 1) := by decide +kernel
theorem dX3_broughtAt_2 : decode cX3_broughtAt 2 = .ok (.iconst 0, 1) := by decide +kernel
theorem dX3_broughtAt_3 : decode cX3_broughtAt 3 = .ok (.istore_n 3, 1) := by decide +kernel
theorem dX3_broughtAt_4 : decode cX3_broughtAt 4 = .ok (.iload_n 3, 1) := by decide +kernel
theorem dX3_broughtAt_5 : decode cX3_broughtAt 5 = .ok (.getstatic 47, 3) := by decide +kernel
theorem dX3_broughtAt_8 : decode cX3_broughtAt 8 = .ok (.iconst 4, 1) := by decide +kernel
theorem dX3_broughtAt_9 : decode cX3_broughtAt 9 = .ok (.iaload, 1) := by decide +kernel
theorem dX3_broughtAt_10 : decode cX3_broughtAt 10 = .ok (.if_icmp .ge 32, 3) := by decide +kernel
theorem dX3_broughtAt_13 : decode cX3_broughtAt 13 = .ok (.aload_n 0, 1) := by decide +kernel
theorem dX3_broughtAt_14 : decode cX3_broughtAt 14 = .ok (.getfield 21, 3) := by decide +kernel
theorem dX3_broughtAt_17 : decode cX3_broughtAt 17 = .ok (.iload_n 3, 1) := by decide +kernel
theorem dX3_broughtAt_18 : decode cX3_broughtAt 18 = .ok (.ishr, 1) := by decide +kernel
theorem dX3_broughtAt_19 : decode cX3_broughtAt 19 = .ok (.iconst 1, 1) := by decide +kernel
theorem dX3_broughtAt_20 : decode cX3_broughtAt 20 = .ok (.iand, 1) := by decide +kernel
theorem dX3_broughtAt_21 : decode cX3_broughtAt 21 = .ok (.ifCond .ne 6, 3) := by decide +kernel
theorem dX3_broughtAt_24 : decode cX3_broughtAt 24 = .ok (.goto 12, 3) := by decide +kernel
theorem dX3_broughtAt_27 : decode cX3_broughtAt 27 = .ok (.iload_n 2, 1) := by decide +kernel
theorem dX3_broughtAt_28 : decode cX3_broughtAt 28 = .ok (.ifCond .ne 5, 3) := by decide +kernel
theorem dX3_broughtAt_31 : decode cX3_broughtAt 31 = .ok (.iload_n 3, 1) := by decide +kernel
theorem dX3_broughtAt_32 : decode cX3_broughtAt 32 = .ok (.ireturn, 1) := by decide +kernel
theorem dX3_broughtAt_33 : decode cX3_broughtAt 33 = .ok (.iinc 2 (-1), 3) := by decide +kernel
theorem dX3_broughtAt_36 : decode cX3_broughtAt 36 = .ok (.iinc 3 1, 3) := by decide +kernel
theorem dX3_broughtAt_39 : decode cX3_broughtAt 39 = .ok (.goto (-35), 3) := by decide +kernel
theorem dX3_broughtAt_42 : decode cX3_broughtAt 42 = .ok (.bipush (-2), 2) := by decide +kernel
theorem dX3_broughtAt_44 : decode cX3_broughtAt 44 = .ok (.ireturn, 1) := by decide +kernel
theorem dX4_init_0 : decode cX4_init 0 = .ok (.aload_n 0, 1) := by decide +kernel
theorem dX4_init_1 : decode cX4_init 1 = .ok (.invokespecial 3, 3) := by decide +kernel
theorem dX4_init_4 : decode cX4_init 4 = .ok (.aload_n 0, 1) := by decide +kernel
theorem dX4_init_5 : decode cX4_init 5 = .ok (.getstatic 9, 3) := by decide +kernel
theorem dX4_init_8 : decode cX4_init 8 = .ok (.arraylength, 1) := by decide +kernel
theorem dX4_init_9 : decode cX4_init 9 = .ok (.newarray .int, 2) := by decide +kernel
theorem dX4_init_11 : decode cX4_init 11 = .ok (.putfield 13, 3) := by decide +kernel
theorem dX4_init_14 : decode cX4_init 14 = .ok (.aload_n 0, 1) := by decide +kernel
theorem dX4_init_15 : decode cX4_init 15 = .ok (.getstatic 9, 3) := by decide +kernel
theorem dX4_init_18 : decode cX4_init 18 = .ok (.iconst 0, 1) := by decide +kernel
theorem dX4_init_19 : decode cX4_init 19 = .ok (.iaload, 1) := by decide +kernel
theorem dX4_init_20 : decode cX4_init 20 = .ok (.newarray .int, 2) := by decide +kernel
theorem dX4_init_22 : decode cX4_init 22 = .ok (.putfield 18, 3) := by decide +kernel
theorem dX4_init_25 : decode cX4_init 25 = .ok (.aload_n 0, 1) := by decide +kernel
theorem dX4_init_26 : decode cX4_init 26 = .ok (.getstatic 9, 3) := by decide +kernel
theorem dX4_init_29 : decode cX4_init 29 = .ok (.iconst 0, 1) := by decide +kernel
theorem dX4_init_30 : decode cX4_init 30 = .ok (.iaload, 1) := by decide +kernel
theorem dX4_init_31 : decode cX4_init 31 = .ok (.newarray .int, 2) := by decide +kernel
theorem dX4_init_33 : decode cX4_init 33 = .ok (.putfield 21, 3) := by decide +kernel
theorem dX4_init_36 : decode cX4_init 36 = .ok (.aload_n 0, 1) := by decide +kernel
theorem dX4_init_37 : decode cX4_init 37 = .ok (.getstatic 9, 3) := by decide +kernel
theorem dX4_init_40 : decode cX4_init 40 = .ok (.iconst 0, 1) := by decide +kernel
theorem dX4_init_41 : decode cX4_init 41 = .ok (.iaload, 1) := by decide +kernel
theorem dX4_init_42 : decode cX4_init 42 = .ok (.newarray .int, 2) := by decide +kernel
theorem dX4_init_44 : decode cX4_init 44 = .ok (.putfield 24, 3) := by decide +kernel
theorem dX4_init_47 : decode cX4_init 47 = .ok (.aload_n 0, 1) := by decide +kernel
theorem dX4_init_48 : decode cX4_init 48 = .ok (.getstatic 9, 3) := by decide +kernel
theorem dX4_init_51 : decode cX4_init 51 = .ok (.iconst 2, 1) := by decide +kernel
theorem dX4_init_52 : decode cX4_init 52 = .ok (.iaload, 1) := by decide +kernel
theorem dX4_init_53 : decode cX4_init 53 = .ok (.newarray .int, 2) := by decide +kernel
theorem dX4_init_55 : decode cX4_init 55 = .ok (.putfield 27, 3) := by decide +kernel
theorem dX4_init_58 : decode cX4_init 58 = .ok (.aload_n 0, 1) := by decide +kernel
theorem dX4_init_59 : decode cX4_init 59 = .ok (.getstatic 9, 3) := by decide +kernel
theorem dX4_init_62 : decode cX4_init 62 = .ok (.iconst 2, 1) := by decide +kernel
theorem dX4_init_63 : decode cX4_init 63 = .ok (.iaload, 1) := by decide +kernel
theorem dX4_init_64 : decode cX4_init 64 = .ok (.newarray .int, 2) := by decide +kernel
theorem dX4_init_66 : decode cX4_init 66 = .ok (.putfield 30, 3) := by decide +kernel
theorem dX4_init_69 : decode cX4_init 69 = .ok (.aload_n 0, 1) := by decide +kernel
theorem dX4_init_70 : decode cX4_init 70 = .ok (.getstatic 9, 3) := by decide +kernel
theorem dX4_init_73 : decode cX4_init 73 = .ok (.iconst 2, 1) := by decide +kernel
theorem dX4_init_74 : decode cX4_init 74 = .ok (.iaload, 1) := by decide +kernel
theorem dX4_init_75 : decode cX4_init 75 = .ok (.newarray .int, 2) := by decide +kernel
theorem dX4_init_77 : decode cX4_init 77 = .ok (.putfield 33, 3) := by decide +kernel
theorem dX4_init_80 : decode cX4_init 80 = .ok (.aload_n 0, 1) := by decide +kernel
theorem dX4_init_81 : decode cX4_init 81 = .ok (.getstatic 9, 3) := by decide +kernel
theorem dX4_init_84 : decode cX4_init 84 = .ok (.iconst 2, 1) := by decide +kernel
theorem dX4_init_85 : decode cX4_init 85 = .ok (.iaload, 1) := by decide +kernel
theorem dX4_init_86 : decode cX4_init 86 = .ok (.newarray .int, 2) := by decide +kernel
theorem dX4_init_88 : decode cX4_init 88 = .ok (.putfield 36, 3) := by decide +kernel
theorem dX4_init_91 : decode cX4_init 91 = .ok (.aload_n 0, 1) := by decide +kernel
theorem dX4_init_92 : decode cX4_init 92 = .ok (.getstatic 9, 3) := by decide +kernel
theorem dX4_init_95 : decode cX4_init 95 = .ok (.iconst 3, 1) := by decide +kernel
theorem dX4_init_96 : decode cX4_init 96 = .ok (.iaload, 1) := by decide +kernel
theorem dX4_init_97 : decode cX4_init 97 = .ok (.newarray .int, 2) := by decide +kernel
theorem dX4_init_99 : decode cX4_init 99 = .ok (.putfield 39, 3) := by decide +kernel
theorem dX4_init_102 : decode cX4_init 102 = .ok (.aload_n 0, 1) := by decide +kernel
theorem dX4_init_103 : decode cX4_init 103 = .ok (.getstatic 9, 3) := by decide +kernel
theorem dX4_init_106 : decode cX4_init 106 = .ok (.iconst 3, 1) := by decide +kernel
theorem dX4_init_107 : decode cX4_init 107 = .ok (.iaload, 1) := by decide +kernel
theorem dX4_init_108 : decode cX4_init 108 = .ok (.newarray .int, 2) := by decide +kernel
theorem dX4_init_110 : decode cX4_init 110 = .ok (.putfield 42, 3) := by decide +kernel
theorem dX4_init_113 : decode cX4_init 113 = .ok (.aload_n 0, 1) := by decide +kernel
theorem dX4_init_114 : decode cX4_init 114 = .ok (.getstatic 9, 3) := by decide +kernel
theorem dX4_init_117 : decode cX4_init 117 = .ok (.iconst 4, 1) := by decide +kernel
theorem dX4_init_118 : decode cX4_init 118 = .ok (.iaload, 1) := by decide +kernel
theorem dX4_init_119 : decode cX4_init 119 = .ok (.newarray .int, 2) := by decide +kernel
theorem dX4_init_121 : decode cX4_init 121 = .ok (.putfield 45, 3) := by decide +kernel
theorem dX4_init_124 : decode cX4_init 124 = .ok (.aload_n 0, 1) := by decide +kernel
theorem dX4_init_125 : decode cX4_init 125 = .ok (.getstatic 9, 3) := by decide +kernel
theorem dX4_init_128 : decode cX4_init 128 = .ok (.iconst 4, 1) := by decide +kernel
theorem dX4_init_129 : decode cX4_init 129 = .ok (.iaload, 1) := by decide +kernel
theorem dX4_init_130 : decode cX4_init 130 = .ok (.newarray .int, 2) := by decide +kernel
theorem dX4_init_132 : decode cX4_init 132 = .ok (.putfield 48, 3) := by decide +kernel
theorem dX4_init_135 : decode cX4_init 135 = .ok (.aload_n 0, 1) := by decide +kernel
theorem dX4_init_136 : decode cX4_init 136 = .ok (.getstatic 9, 3) := by decide +kernel
theorem dX4_init_139 : decode cX4_init 139 = .ok (.iconst 5, 1) := by decide +kernel
theorem dX4_init_140 : decode cX4_init 140 = .ok (.iaload, 1) := by decide +kernel
theorem dX4_init_141 : decode cX4_init 141 = .ok (.newarray .int, 2) := by decide +kernel
theorem dX4_init_143 : decode cX4_init 143 = .ok (.putfield 51, 3) := by decide +kernel
theorem dX4_init_146 : decode cX4_init 146 = .ok (.aload_n 0, 1) := by decide +kernel
theorem dX4_init_147 : decode cX4_init 147 = .ok (.getstatic 9, 3) := by decide +kernel
theorem dX4_init_150 : decode cX4_init 150 = .ok (.iconst 5, 1) := by decide +kernel
theorem dX4_init_151 : decode cX4_init 151 = .ok (.iaload, 1) := by decide +kernel
theorem dX4_init_152 : decode cX4_init 152 = .ok (.newarray .int, 2) := by decide +kernel
theorem dX4_init_154 : decode cX4_init 154 = .ok (.putfield 54, 3) := by decide +kernel
theorem dX4_init_157 : decode cX4_init 157 = .ok (.aload_n 0, 1) := by decide +kernel
theorem dX4_init_158 : decode cX4_init 158 = .ok (.getstatic 9, 3) := by decide +kernel
theorem dX4_init_161 : decode cX4_init 161 = .ok (.bipush 6, 2) := by decide +kernel
theorem dX4_init_163 : decode cX4_init 163 = .ok (.iaload, 1) := by decide +kernel
theorem dX4_init_164 : decode cX4_init 164 = .ok (.newarray .int, 2) := by decide +kernel
theorem dX4_init_166 : decode cX4_init 166 = .ok (.putfield 57, 3) := by decide +kernel
theorem dX4_init_169 : decode cX4_init 169 = .ok (.aload_n 0, 1) := by decide +kernel
theorem dX4_init_170 : decode cX4_init 170 = .ok (.getstatic 9, 3) := by decide +kernel
theorem dX4_init_173 : decode cX4_init 173 = .ok (.bipush 6, 2) := by decide +kernel
theorem dX4_init_175 : decode cX4_init 175 = .ok (.iaload, 1) := by decide +kernel
theorem dX4_init_176 : decode cX4_init 176 = .ok (.newarray .int, 2) := by decide +kernel
theorem dX4_init_178 : decode cX4_init 178 = .ok (.putfield 60, 3) := by decide +kernel
theorem dX4_init_181 : decode cX4_init 181 = .ok (.return_, 1) := by decide +kernel
theorem dX4_clear_0 : decode cX4_clear 0 = .ok (.aload_n 0, 1) := by decide +kernel
theorem dX4_clear_1 : decode cX4_clear 1 = .ok (.iconst 0, 1) := by decide +kernel
theorem dX4_clear_2 : decode cX4_clear 2 = .ok (.putfield 63, 3) := by decide +kernel
theorem dX4_clear_5 : decode cX4_clear 5 = .ok (.aload_n 0, 1) := by decide +kernel
theorem dX4_clear_6 : decode cX4_clear 6 = .ok (.iconst 0, 1) := by decide +kernel
theorem dX4_clear_7 : decode cX4_clear 7 = .ok (.putfield 67, 3) := by decide +kernel
theorem dX4_clear_10 : decode cX4_clear 10 = .ok (.iconst 0, 1) := by decide +kernel
theorem dX4_clear_11 : decode cX4_clear 11 = .ok (.istore_n 1, 1) := by decide +kernel
theorem dX4_clear_12 : decode cX4_clear 12 = .ok (.iload_n 1, 1) := by decide +kernel
theorem dX4_clear_13 : decode cX4_clear 13 = .ok (.aload_n 0, 1) := by decide +kernel
theorem dX4_clear_14 : decode cX4_clear 14 = .ok (.getfield 13, 3) := by decide +kernel
theorem dX4_clear_17 : decode cX4_clear 17 = .ok (.arraylength, 1) := by decide +kernel
theorem dX4_clear_18 : decode cX4_clear 18 = .ok (.if_icmp .ge 16, 3) := by decide +kernel
theorem dX4_clear_21 : decode cX4_clear 21 = .ok (.aload_n 0, 1) := by decide +kernel
theorem dX4_clear_22 : decode cX4_clear 22 = .ok (.getfield 13, 3) := by decide +kernel
theorem dX4_clear_25 : decode cX4_clear 25 = .ok (.iload_n 1, 1) := by decide +kernel
theorem dX4_clear_26 : decode cX4_clear 26 = .ok (.iconst 0, 1) := by decide +kernel
theorem dX4_clear_27 : decode cX4_clear 27 = .ok (.iastore, 1) := by decide +kernel
theorem dX4_clear_28 : decode cX4_clear 28 = .ok (.iinc 1 1, 3) := by decide +kernel
theorem dX4_clear_31 : decode cX4_clear 31 = .ok (.goto (-19), 3) := by decide +kernel
theorem dX4_clear_34 : decode cX4_clear 34 = .ok (.iconst 0, 1) := by decide +kernel
theorem dX4_clear_35 : decode cX4_clear 35 = .ok (.istore_n 1, 1) := by decide +kernel
theorem dX4_clear_36 : decode cX4_clear 36 = .ok (.iload_n 1, 1) := by decide +kernel
theorem dX4_clear_37 : decode cX4_clear 37 = .ok (.aload_n 0, 1) := by decide +kernel
theorem dX4_clear_38 : decode cX4_clear 38 = .ok (.getfield 24, 3) := by decide +kernel
theorem dX4_clear_41 : decode cX4_clear 41 = .ok (.arraylength, 1) := by decide +kernel
theorem dX4_clear_42 : decode cX4_clear 42 = .ok (.if_icmp .ge 16, 3) := by decide +kernel
theorem dX4_clear_45 : decode cX4_clear 45 = .ok (.aload_n 0, 1) := by decide +kernel
theorem dX4_clear_46 : decode cX4_clear 46 = .ok (.getfield 24, 3) := by decide +kernel
theorem dX4_clear_49 : decode cX4_clear 49 = .ok (.iload_n 1, 1) := by decide +kernel
theorem dX4_clear_50 : decode cX4_clear 50 = .ok (.iconst 0, 1) := by decide +kernel
theorem dX4_clear_51 : decode cX4_clear 51 = .ok (.iastore, 1) := by decide +kernel
theorem dX4_clear_52 : decode cX4_clear 52 = .ok (.iinc 1 1, 3) := by decide +kernel
theorem dX4_clear_55 : decode cX4_clear 55 = .ok (.goto (-19), 3) := by decide +kernel
theorem dX4_clear_58 : decode cX4_clear 58 = .ok (.return_, 1) := by decide +kernel
theorem dX4_isTold_0 : decode cX4_isTold 0 = .ok (.aload_n 0, 1) := by decide +kernel
theorem dX4_isTold_1 : decode cX4_isTold 1 = .ok (.getfield 63, 3) := by decide +kernel
theorem dX4_isTold_4 : decode cX4_isTold 4 = .ok (.ifCond .le 7, 3) := by decide +kernel
theorem dX4_isTold_7 : decode cX4_isTold 7 = .ok (.iconst 1, 1) := by decide +kernel
theorem dX4_isTold_8 : decode cX4_isTold 8 = .ok (.goto 4, 3) := by decide +kernel
theorem dX4_isTold_11 : decode cX4_isTold 11 = .ok (.iconst 0, 1) := by decide +kernel
theorem dX4_isTold_12 : decode cX4_isTold 12 = .ok (.ireturn, 1) := by decide +kernel
theorem dX4_hasHarbourAndWoman_0 : decode cX4_hasHarbourAndWoman 0 = .ok (.aload_n 0, 1) := by decide +kernel
theorem dX4_hasHarbourAndWoman_1 : decode cX4_hasHarbourAndWoman 1 = .ok (.getfield 13, 3) := by decide +kernel
theorem dX4_hasHarbourAndWoman_4 : decode cX4_hasHarbourAndWoman 4 = .ok (.iconst 0, 1) := by decide +kernel
theorem dX4_hasHarbourAndWoman_5 : decode cX4_hasHarbourAndWoman 5 = .ok (.iaload, 1) := by decide +kernel
theorem dX4_hasHarbourAndWoman_6 : decode cX4_hasHarbourAndWoman 6 = .ok (.ifCond .le 16, 3) := by decide +kernel
theorem dX4_hasHarbourAndWoman_9 : decode cX4_hasHarbourAndWoman 9 = .ok (.aload_n 0, 1) := by decide +kernel
theorem dX4_hasHarbourAndWoman_10 : decode cX4_hasHarbourAndWoman 10 = .ok (.getfield 13, 3) := by decide +kernel
theorem dX4_hasHarbourAndWoman_13 : decode cX4_hasHarbourAndWoman 13 = .ok (.iconst 2, 1) := by decide +kernel
theorem dX4_hasHarbourAndWoman_14 : decode cX4_hasHarbourAndWoman 14 = .ok (.iaload, 1) := by decide +kernel
theorem dX4_hasHarbourAndWoman_15 : decode cX4_hasHarbourAndWoman 15 = .ok (.ifCond .le 7, 3) := by decide +kernel
theorem dX4_hasHarbourAndWoman_18 : decode cX4_hasHarbourAndWoman 18 = .ok (.iconst 1, 1) := by decide +kernel
theorem dX4_hasHarbourAndWoman_19 : decode cX4_hasHarbourAndWoman 19 = .ok (.goto 4, 3) := by decide +kernel
theorem dX4_hasHarbourAndWoman_22 : decode cX4_hasHarbourAndWoman 22 = .ok (.iconst 0, 1) := by decide +kernel
theorem dX4_hasHarbourAndWoman_23 : decode cX4_hasHarbourAndWoman 23 = .ok (.ireturn, 1) := by decide +kernel
theorem dX4_reachOf_0 : decode cX4_reachOf 0 = .ok (.iload_n 1, 1) := by decide +kernel
theorem dX4_reachOf_1 : decode cX4_reachOf 1 = .ok (.ifCond .lt 12, 3) := by decide +kernel
theorem dX4_reachOf_4 : decode cX4_reachOf 4 = .ok (.iload_n 1, 1) := by decide +kernel
theorem dX4_reachOf_5 : decode cX4_reachOf 5 = .ok (.aload_n 0, 1) := by decide +kernel
theorem dX4_reachOf_6 : decode cX4_reachOf 6 = .ok (.getfield 24, 3) := by decide +kernel
theorem dX4_reachOf_9 : decode cX4_reachOf 9 = .ok (.arraylength, 1) := by decide +kernel
theorem dX4_reachOf_10 : decode cX4_reachOf 10 = .ok (.if_icmp .lt 7, 3) := by decide +kernel
theorem dX4_reachOf_13 : decode cX4_reachOf 13 = .ok (.iconst 0, 1) := by decide +kernel
theorem dX4_reachOf_14 : decode cX4_reachOf 14 = .ok (.goto 13, 3) := by decide +kernel
theorem dX4_reachOf_17 : decode cX4_reachOf 17 = .ok (.aload_n 0, 1) := by decide +kernel
theorem dX4_reachOf_18 : decode cX4_reachOf 18 = .ok (.getfield 24, 3) := by decide +kernel
theorem dX4_reachOf_21 : decode cX4_reachOf 21 = .ok (.iload_n 1, 1) := by decide +kernel
theorem dX4_reachOf_22 : decode cX4_reachOf 22 = .ok (.iaload, 1) := by decide +kernel
theorem dX4_reachOf_23 : decode cX4_reachOf 23 = .ok (.iconst 1, 1) := by decide +kernel
theorem dX4_reachOf_24 : decode cX4_reachOf 24 = .ok (.iload_n 1, 1) := by decide +kernel
theorem dX4_reachOf_25 : decode cX4_reachOf 25 = .ok (.ishl, 1) := by decide +kernel
theorem dX4_reachOf_26 : decode cX4_reachOf 26 = .ok (.ior, 1) := by decide +kernel
theorem dX4_reachOf_27 : decode cX4_reachOf 27 = .ok (.ireturn, 1) := by decide +kernel
theorem dX4_canReach_0 : decode cX4_canReach 0 = .ok (.aload_n 0, 1) := by decide +kernel
theorem dX4_canReach_1 : decode cX4_canReach 1 = .ok (.iload_n 1, 1) := by decide +kernel
theorem dX4_canReach_2 : decode cX4_canReach 2 = .ok (.invokevirtual 70, 3) := by decide +kernel
theorem dX4_canReach_5 : decode cX4_canReach 5 = .ok (.iload_n 2, 1) := by decide +kernel
theorem dX4_canReach_6 : decode cX4_canReach 6 = .ok (.ishr, 1) := by decide +kernel
theorem dX4_canReach_7 : decode cX4_canReach 7 = .ok (.iconst 1, 1) := by decide +kernel
theorem dX4_canReach_8 : decode cX4_canReach 8 = .ok (.iand, 1) := by decide +kernel
theorem dX4_canReach_9 : decode cX4_canReach 9 = .ok (.ifCond .eq 7, 3) := by decide +kernel
theorem dX4_canReach_12 : decode cX4_canReach 12 = .ok (.iconst 1, 1) := by decide +kernel
theorem dX4_canReach_13 : decode cX4_canReach 13 = .ok (.goto 4, 3) := by decide +kernel
theorem dX4_canReach_16 : decode cX4_canReach 16 = .ok (.iconst 0, 1) := by decide +kernel
theorem dX4_canReach_17 : decode cX4_canReach 17 = .ok (.ireturn, 1) := by decide +kernel
theorem dX4_reachOfAll_0 : decode cX4_reachOfAll 0 = .ok (.iconst 0, 1) := by decide +kernel
theorem dX4_reachOfAll_1 : decode cX4_reachOfAll 1 = .ok (.istore_n 2, 1) := by decide +kernel
theorem dX4_reachOfAll_2 : decode cX4_reachOfAll 2 = .ok (.iconst 0, 1) := by decide +kernel
theorem dX4_reachOfAll_3 : decode cX4_reachOfAll 3 = .ok (.istore_n 3, 1) := by decide +kernel
theorem dX4_reachOfAll_4 : decode cX4_reachOfAll 4 = .ok (.iload_n 3, 1) := by decide +kernel
theorem dX4_reachOfAll_5 : decode cX4_reachOfAll 5 = .ok (.aload_n 0, 1) := by decide +kernel
theorem dX4_reachOfAll_6 : decode cX4_reachOfAll 6 = .ok (.getfield 13, 3) := by decide +kernel
theorem dX4_reachOfAll_9 : decode cX4_reachOfAll 9 = .ok (.iconst 0, 1) := by decide +kernel
theorem dX4_reachOfAll_10 : decode cX4_reachOfAll 10 = .ok (.iaload, 1) := by decide +kernel
theorem dX4_reachOfAll_11 : decode cX4_reachOfAll 11 = .ok (.if_icmp .ge 25, 3) := by decide +kernel
theorem dX4_reachOfAll_14 : decode cX4_reachOfAll 14 = .ok (.iload_n 1, 1) := by decide +kernel
theorem dX4_reachOfAll_15 : decode cX4_reachOfAll 15 = .ok (.iload_n 3, 1) := by decide +kernel
theorem dX4_reachOfAll_16 : decode cX4_reachOfAll 16 = .ok (.ishr, 1) := by decide +kernel
theorem dX4_reachOfAll_17 : decode cX4_reachOfAll 17 = .ok (.iconst 1, 1) := by decide +kernel
theorem dX4_reachOfAll_18 : decode cX4_reachOfAll 18 = .ok (.iand, 1) := by decide +kernel
theorem dX4_reachOfAll_19 : decode cX4_reachOfAll 19 = .ok (.ifCond .eq 11, 3) := by decide +kernel
theorem dX4_reachOfAll_22 : decode cX4_reachOfAll 22 = .ok (.iload_n 2, 1) := by decide +kernel
theorem dX4_reachOfAll_23 : decode cX4_reachOfAll 23 = .ok (.aload_n 0, 1) := by decide +kernel
theorem dX4_reachOfAll_24 : decode cX4_reachOfAll 24 = .ok (.iload_n 3, 1) := by decide +kernel
theorem dX4_reachOfAll_25 : decode cX4_reachOfAll 25 = .ok (.invokevirtual 70, 3) := by decide +kernel
theorem dX4_reachOfAll_28 : decode cX4_reachOfAll 28 = .ok (.ior, 1) := by decide +kernel
theorem dX4_reachOfAll_29 : decode cX4_reachOfAll 29 = .ok (.istore_n 2, 1) := by decide +kernel
theorem dX4_reachOfAll_30 : decode cX4_reachOfAll 30 = .ok (.iinc 3 1, 3) := by decide +kernel
theorem dX4_reachOfAll_33 : decode cX4_reachOfAll 33 = .ok (.goto (-29), 3) := by decide +kernel
theorem dX4_reachOfAll_36 : decode cX4_reachOfAll 36 = .ok (.iload_n 2, 1) := by decide +kernel
theorem dX4_reachOfAll_37 : decode cX4_reachOfAll 37 = .ok (.ireturn, 1) := by decide +kernel
theorem dX4_landingsApart_0 : decode cX4_landingsApart 0 = .ok (.iconst 1, 1) := by decide +kernel
theorem dX4_landingsApart_1 : decode cX4_landingsApart 1 = .ok (.iload_n 1, 1) := by decide +kernel
theorem dX4_landingsApart_2 : decode cX4_landingsApart 2 = .ok (.ishl, 1) := by decide +kernel
theorem dX4_landingsApart_3 : decode cX4_landingsApart 3 = .ok (.istore_n 3, 1) := by decide +kernel
theorem dX4_landingsApart_4 : decode cX4_landingsApart 4 = .ok (.iconst 0, 1) := by decide +kernel
theorem dX4_landingsApart_5 : decode cX4_landingsApart 5 = .ok (.istore 4, 2) := by decide +kernel
theorem dX4_landingsApart_7 : decode cX4_landingsApart 7 = .ok (.iload 4, 2) := by decide +kernel
theorem dX4_landingsApart_9 : decode cX4_landingsApart 9 = .ok (.aload_n 0, 1) := by decide +kernel
theorem dX4_landingsApart_10 : decode cX4_landingsApart 10 = .ok (.getfield 13, 3) := by decide +kernel
theorem dX4_landingsApart_13 : decode cX4_landingsApart 13 = .ok (.iconst 0, 1) := by decide +kernel
theorem dX4_landingsApart_14 : decode cX4_landingsApart 14 = .ok (.iaload, 1) := by decide +kernel
theorem dX4_landingsApart_15 : decode cX4_landingsApart 15 = .ok (.if_icmp .ge 26, 3) := by decide +kernel
theorem dX4_landingsApart_18 : decode cX4_landingsApart 18 = .ok (.iload_n 3, 1) := by decide +kernel
theorem dX4_landingsApart_19 : decode cX4_landingsApart 19 = .ok (.iload_n 2, 1) := by decide +kernel
theorem dX4_landingsApart_20 : decode cX4_landingsApart 20 = .ok (.ishr, 1) := by decide +kernel
theorem dX4_landingsApart_21 : decode cX4_landingsApart 21 = .ok (.iconst 1, 1) := by decide +kernel
theorem dX4_landingsApart_22 : decode cX4_landingsApart 22 = .ok (.iand, 1) := by decide +kernel
theorem dX4_landingsApart_23 : decode cX4_landingsApart 23 = .ok (.ifCond .eq 6, 3) := by decide +kernel
theorem dX4_landingsApart_26 : decode cX4_landingsApart 26 = .ok (.iload 4, 2) := by decide +kernel
theorem dX4_landingsApart_28 : decode cX4_landingsApart 28 = .ok (.ireturn, 1) := by decide +kernel
theorem dX4_landingsApart_29 : decode cX4_landingsApart 29 = .ok (.aload_n 0, 1) := by decide +kernel
theorem dX4_landingsApart_30 : decode cX4_landingsApart 30 = .ok (.iload_n 3, 1) := by decide +kernel
theorem dX4_landingsApart_31 : decode cX4_landingsApart 31 = .ok (.invokevirtual 74, 3) := by decide +kernel
theorem dX4_landingsApart_34 : decode cX4_landingsApart 34 = .ok (.istore_n 3, 1) := by decide +kernel
theorem dX4_landingsApart_35 : decode cX4_landingsApart 35 = .ok (.iinc 4 1, 3) := by decide +kernel
theorem dX4_landingsApart_38 : decode cX4_landingsApart 38 = .ok (.goto (-31), 3) := by decide +kernel
theorem dX4_landingsApart_41 : decode cX4_landingsApart 41 = .ok (.bipush (-2), 2) := by decide +kernel
theorem dX4_landingsApart_43 : decode cX4_landingsApart 43 = .ok (.ireturn, 1) := by decide +kernel
theorem dX4_fewestBells_0 : decode cX4_fewestBells 0 = .ok (.iconst 1, 1) := by decide +kernel
theorem dX4_fewestBells_1 : decode cX4_fewestBells 1 = .ok (.aload_n 0, 1) := by decide +kernel
theorem dX4_fewestBells_2 : decode cX4_fewestBells 2 = .ok (.getfield 13, 3) := by decide +kernel
theorem dX4_fewestBells_5 : decode cX4_fewestBells 5 = .ok (.iconst 0, 1) := by decide +kernel
theorem dX4_fewestBells_6 : decode cX4_fewestBells 6 = .ok (.iaload, 1) := by decide +kernel
theorem dX4_fewestBells_7 : decode cX4_fewestBells 7 = .ok (.ishl, 1) := by decide +kernel
theorem dX4_fewestBells_8 : decode cX4_fewestBells 8 = .ok (.iconst 1, 1) := by decide +kernel
theorem dX4_fewestBells_9 : decode cX4_fewestBells 9 = .ok (.isub, 1) := by decide +kernel
theorem dX4_fewestBells_10 : decode cX4_fewestBells 10 = .ok (.istore_n 1, 1) := by decide +kernel
theorem dX4_fewestBells_11 : decode cX4_fewestBells 11 = .ok (.iload_n 1, 1) := by decide +kernel
theorem dX4_fewestBells_12 : decode cX4_fewestBells 12 = .ok (.istore_n 2, 1) := by decide +kernel
theorem dX4_fewestBells_13 : decode cX4_fewestBells 13 = .ok (.iconst 0, 1) := by decide +kernel
theorem dX4_fewestBells_14 : decode cX4_fewestBells 14 = .ok (.istore_n 3, 1) := by decide +kernel
theorem dX4_fewestBells_15 : decode cX4_fewestBells 15 = .ok (.iload_n 3, 1) := by decide +kernel
theorem dX4_fewestBells_16 : decode cX4_fewestBells 16 = .ok (.iload_n 1, 1) := by decide +kernel
theorem dX4_fewestBells_17 : decode cX4_fewestBells 17 = .ok (.if_icmp .ge 31, 3) := by decide +kernel
theorem dX4_fewestBells_20 : decode cX4_fewestBells 20 = .ok (.iload_n 3, 1) := by decide +kernel
theorem dX4_fewestBells_21 : decode cX4_fewestBells 21 = .ok (.invokestatic 77, 3) := by decide +kernel
theorem dX4_fewestBells_24 : decode cX4_fewestBells 24 = .ok (.iload_n 2, 1) := by decide +kernel
theorem dX4_fewestBells_25 : decode cX4_fewestBells 25 = .ok (.invokestatic 77, 3) := by decide +kernel
theorem dX4_fewestBells_28 : decode cX4_fewestBells 28 = .ok (.if_icmp .ge 14, 3) := by decide +kernel
theorem dX4_fewestBells_31 : decode cX4_fewestBells 31 = .ok (.aload_n 0, 1) := by decide +kernel
theorem dX4_fewestBells_32 : decode cX4_fewestBells 32 = .ok (.iload_n 3, 1) := by decide +kernel
theorem dX4_fewestBells_33 : decode cX4_fewestBells 33 = .ok (.invokevirtual 74, 3) := by decide +kernel
theorem dX4_fewestBells_36 : decode cX4_fewestBells 36 = .ok (.iload_n 1, 1) := by decide +kernel
theorem dX4_fewestBells_37 : decode cX4_fewestBells 37 = .ok (.if_icmp .ne 5, 3) := by decide +kernel
theorem dX4_fewestBells_40 : decode cX4_fewestBells 40 = .ok (.iload_n 3, 1) := by decide +kernel
theorem dX4_fewestBells_41 : decode cX4_fewestBells 41 = .ok (.istore_n 2, 1) := by decide +kernel
theorem dX4_fewestBells_42 : decode cX4_fewestBells 42 = .ok (.iinc 3 1, 3) := by decide +kernel
theorem dX4_fewestBells_45 : decode cX4_fewestBells 45 = .ok (.goto (-30), 3) := by decide +kernel
theorem dX4_fewestBells_48 : decode cX4_fewestBells 48 = .ok (.iload_n 2, 1) := by decide +kernel
theorem dX4_fewestBells_49 : decode cX4_fewestBells 49 = .ok (.ireturn, 1) := by decide +kernel
theorem dX4_womenIn_0 : decode cX4_womenIn 0 = .ok (.iconst 0, 1) := by decide +kernel
theorem dX4_womenIn_1 : decode cX4_womenIn 1 = .ok (.istore_n 2, 1) := by decide +kernel
theorem dX4_womenIn_2 : decode cX4_womenIn 2 = .ok (.iconst 0, 1) := by decide +kernel
theorem dX4_womenIn_3 : decode cX4_womenIn 3 = .ok (.istore_n 3, 1) := by decide +kernel
theorem dX4_womenIn_4 : decode cX4_womenIn 4 = .ok (.iload_n 3, 1) := by decide +kernel
theorem dX4_womenIn_5 : decode cX4_womenIn 5 = .ok (.aload_n 0, 1) := by decide +kernel
theorem dX4_womenIn_6 : decode cX4_womenIn 6 = .ok (.getfield 13, 3) := by decide +kernel
theorem dX4_womenIn_9 : decode cX4_womenIn 9 = .ok (.iconst 2, 1) := by decide +kernel
theorem dX4_womenIn_10 : decode cX4_womenIn 10 = .ok (.iaload, 1) := by decide +kernel
theorem dX4_womenIn_11 : decode cX4_womenIn 11 = .ok (.if_icmp .ge 25, 3) := by decide +kernel
theorem dX4_womenIn_14 : decode cX4_womenIn 14 = .ok (.aload_n 0, 1) := by decide +kernel
theorem dX4_womenIn_15 : decode cX4_womenIn 15 = .ok (.getfield 30, 3) := by decide +kernel
theorem dX4_womenIn_18 : decode cX4_womenIn 18 = .ok (.iload_n 3, 1) := by decide +kernel
theorem dX4_womenIn_19 : decode cX4_womenIn 19 = .ok (.iaload, 1) := by decide +kernel
theorem dX4_womenIn_20 : decode cX4_womenIn 20 = .ok (.iload_n 1, 1) := by decide +kernel
theorem dX4_womenIn_21 : decode cX4_womenIn 21 = .ok (.if_icmp .ne 9, 3) := by decide +kernel
theorem dX4_womenIn_24 : decode cX4_womenIn 24 = .ok (.iload_n 2, 1) := by decide +kernel
theorem dX4_womenIn_25 : decode cX4_womenIn 25 = .ok (.iconst 1, 1) := by decide +kernel
theorem dX4_womenIn_26 : decode cX4_womenIn 26 = .ok (.iload_n 3, 1) := by decide +kernel
theorem dX4_womenIn_27 : decode cX4_womenIn 27 = .ok (.ishl, 1) := by decide +kernel
theorem dX4_womenIn_28 : decode cX4_womenIn 28 = .ok (.ior, 1) := by decide +kernel
theorem dX4_womenIn_29 : decode cX4_womenIn 29 = .ok (.istore_n 2, 1) := by decide +kernel
theorem dX4_womenIn_30 : decode cX4_womenIn 30 = .ok (.iinc 3 1, 3) := by decide +kernel
theorem dX4_womenIn_33 : decode cX4_womenIn 33 = .ok (.goto (-29), 3) := by decide +kernel
theorem dX4_womenIn_36 : decode cX4_womenIn 36 = .ok (.iload_n 2, 1) := by decide +kernel
theorem dX4_womenIn_37 : decode cX4_womenIn 37 = .ok (.ireturn, 1) := by decide +kernel
theorem dX4_lettersDue_0 : decode cX4_lettersDue 0 = .ok (.iconst 0, 1) := by decide +kernel
theorem dX4_lettersDue_1 : decode cX4_lettersDue 1 = .ok (.istore_n 3, 1) := by decide +kernel
theorem dX4_lettersDue_2 : decode cX4_lettersDue 2 = .ok (.iconst 0, 1) := by decide +kernel
theorem dX4_lettersDue_3 : decode cX4_lettersDue 3 = .ok (.istore 4, 2) := by decide +kernel
theorem dX4_lettersDue_5 : decode cX4_lettersDue 5 = .ok (.iload 4, 2) := by decide +kernel
theorem dX4_lettersDue_7 : decode cX4_lettersDue 7 = .ok (.aload_n 0, 1) := by decide +kernel
theorem dX4_lettersDue_8 : decode cX4_lettersDue 8 = .ok (.getfield 13, 3) := by decide +kernel
theorem dX4_lettersDue_11 : decode cX4_lettersDue 11 = .ok (.iconst 4, 1) := by decide +kernel
theorem dX4_lettersDue_12 : decode cX4_lettersDue 12 = .ok (.iaload, 1) := by decide +kernel
theorem dX4_lettersDue_13 : decode cX4_lettersDue 13 = .ok (.if_icmp .ge 38, 3) := by decide +kernel
theorem dX4_lettersDue_16 : decode cX4_lettersDue 16 = .ok (.aload_n 0, 1) := by decide +kernel
theorem dX4_lettersDue_17 : decode cX4_lettersDue 17 = .ok (.getfield 45, 3) := by decide +kernel
theorem dX4_lettersDue_20 : decode cX4_lettersDue 20 = .ok (.iload 4, 2) := by decide +kernel
theorem dX4_lettersDue_22 : decode cX4_lettersDue 22 = .ok (.iaload, 1) := by decide +kernel
theorem dX4_lettersDue_23 : decode cX4_lettersDue 23 = .ok (.iload_n 1, 1) := by decide +kernel
theorem dX4_lettersDue_24 : decode cX4_lettersDue 24 = .ok (.if_icmp .ne 21, 3) := by decide +kernel
theorem dX4_lettersDue_27 : decode cX4_lettersDue 27 = .ok (.aload_n 0, 1) := by decide +kernel
theorem dX4_lettersDue_28 : decode cX4_lettersDue 28 = .ok (.getfield 48, 3) := by decide +kernel
theorem dX4_lettersDue_31 : decode cX4_lettersDue 31 = .ok (.iload 4, 2) := by decide +kernel
theorem dX4_lettersDue_33 : decode cX4_lettersDue 33 = .ok (.iaload, 1) := by decide +kernel
theorem dX4_lettersDue_34 : decode cX4_lettersDue 34 = .ok (.iload_n 2, 1) := by decide +kernel
theorem dX4_lettersDue_35 : decode cX4_lettersDue 35 = .ok (.if_icmp .lt 10, 3) := by decide +kernel
theorem dX4_lettersDue_38 : decode cX4_lettersDue 38 = .ok (.iload_n 3, 1) := by decide +kernel
theorem dX4_lettersDue_39 : decode cX4_lettersDue 39 = .ok (.iconst 1, 1) := by decide +kernel
theorem dX4_lettersDue_40 : decode cX4_lettersDue 40 = .ok (.iload 4, 2) := by decide +kernel
theorem dX4_lettersDue_42 : decode cX4_lettersDue 42 = .ok (.ishl, 1) := by decide +kernel
theorem dX4_lettersDue_43 : decode cX4_lettersDue 43 = .ok (.ior, 1) := by decide +kernel
theorem dX4_lettersDue_44 : decode cX4_lettersDue 44 = .ok (.istore_n 3, 1) := by decide +kernel
theorem dX4_lettersDue_45 : decode cX4_lettersDue 45 = .ok (.iinc 4 1, 3) := by decide +kernel
theorem dX4_lettersDue_48 : decode cX4_lettersDue 48 = .ok (.goto (-43), 3) := by decide +kernel
theorem dX4_lettersDue_51 : decode cX4_lettersDue 51 = .ok (.iload_n 3, 1) := by decide +kernel
theorem dX4_lettersDue_52 : decode cX4_lettersDue 52 = .ok (.ireturn, 1) := by decide +kernel
theorem dX4_rivalsOf_0 : decode cX4_rivalsOf 0 = .ok (.iconst 0, 1) := by decide +kernel
theorem dX4_rivalsOf_1 : decode cX4_rivalsOf 1 = .ok (.istore_n 2, 1) := by decide +kernel
theorem dX4_rivalsOf_2 : decode cX4_rivalsOf 2 = .ok (.iconst 0, 1) := by decide +kernel
theorem dX4_rivalsOf_3 : decode cX4_rivalsOf 3 = .ok (.istore_n 3, 1) := by decide +kernel
theorem dX4_rivalsOf_4 : decode cX4_rivalsOf 4 = .ok (.iload_n 3, 1) := by decide +kernel
theorem dX4_rivalsOf_5 : decode cX4_rivalsOf 5 = .ok (.aload_n 0, 1) := by decide +kernel
theorem dX4_rivalsOf_6 : decode cX4_rivalsOf 6 = .ok (.getfield 13, 3) := by decide +kernel
theorem dX4_rivalsOf_9 : decode cX4_rivalsOf 9 = .ok (.iconst 3, 1) := by decide +kernel
theorem dX4_rivalsOf_10 : decode cX4_rivalsOf 10 = .ok (.iaload, 1) := by decide +kernel
theorem dX4_rivalsOf_11 : decode cX4_rivalsOf 11 = .ok (.if_icmp .ge 22, 3) := by decide +kernel
theorem dX4_rivalsOf_14 : decode cX4_rivalsOf 14 = .ok (.aload_n 0, 1) := by decide +kernel
theorem dX4_rivalsOf_15 : decode cX4_rivalsOf 15 = .ok (.getfield 39, 3) := by decide +kernel
theorem dX4_rivalsOf_18 : decode cX4_rivalsOf 18 = .ok (.iload_n 3, 1) := by decide +kernel
theorem dX4_rivalsOf_19 : decode cX4_rivalsOf 19 = .ok (.iaload, 1) := by decide +kernel
theorem dX4_rivalsOf_20 : decode cX4_rivalsOf 20 = .ok (.iload_n 1, 1) := by decide +kernel
theorem dX4_rivalsOf_21 : decode cX4_rivalsOf 21 = .ok (.if_icmp .ne 6, 3) := by decide +kernel
theorem dX4_rivalsOf_24 : decode cX4_rivalsOf 24 = .ok (.iinc 2 1, 3) := by decide +kernel
theorem dX4_rivalsOf_27 : decode cX4_rivalsOf 27 = .ok (.iinc 3 1, 3) := by decide +kernel
theorem dX4_rivalsOf_30 : decode cX4_rivalsOf 30 = .ok (.goto (-26), 3) := by decide +kernel
theorem dX4_rivalsOf_33 : decode cX4_rivalsOf 33 = .ok (.iload_n 2, 1) := by decide +kernel
theorem dX4_rivalsOf_34 : decode cX4_rivalsOf 34 = .ok (.ireturn, 1) := by decide +kernel
theorem dX4_isOfAge_0 : decode cX4_isOfAge 0 = .ok (.iload_n 2, 1) := by decide +kernel
theorem dX4_isOfAge_1 : decode cX4_isOfAge 1 = .ok (.aload_n 0, 1) := by decide +kernel
theorem dX4_isOfAge_2 : decode cX4_isOfAge 2 = .ok (.getfield 36, 3) := by decide +kernel
theorem dX4_isOfAge_5 : decode cX4_isOfAge 5 = .ok (.iload_n 1, 1) := by decide +kernel
theorem dX4_isOfAge_6 : decode cX4_isOfAge 6 = .ok (.iaload, 1) := by decide +kernel
theorem dX4_isOfAge_7 : decode cX4_isOfAge 7 = .ok (.isub, 1) := by decide +kernel
theorem dX4_isOfAge_8 : decode cX4_isOfAge 8 = .ok (.istore_n 3, 1) := by decide +kernel
theorem dX4_isOfAge_9 : decode cX4_isOfAge 9 = .ok (.iload_n 3, 1) := by decide +kernel
theorem dX4_isOfAge_10 : decode cX4_isOfAge 10 = .ok (.bipush 16, 2) := by decide +kernel
theorem dX4_isOfAge_12 : decode cX4_isOfAge 12 = .ok (.if_icmp .lt 13, 3) := by decide +kernel
theorem dX4_isOfAge_15 : decode cX4_isOfAge 15 = .ok (.iload_n 3, 1) := by decide +kernel
theorem dX4_isOfAge_16 : decode cX4_isOfAge 16 = .ok (.bipush 40, 2) := by decide +kernel
theorem dX4_isOfAge_18 : decode cX4_isOfAge 18 = .ok (.if_icmp .gt 7, 3) := by decide +kernel
theorem dX4_isOfAge_21 : decode cX4_isOfAge 21 = .ok (.iconst 1, 1) := by decide +kernel
theorem dX4_isOfAge_22 : decode cX4_isOfAge 22 = .ok (.goto 4, 3) := by decide +kernel
theorem dX4_isOfAge_25 : decode cX4_isOfAge 25 = .ok (.iconst 0, 1) := by decide +kernel
theorem dX4_isOfAge_26 : decode cX4_isOfAge 26 = .ok (.ireturn, 1) := by decide +kernel
theorem dX4_unrivalledIn_0 : decode cX4_unrivalledIn 0 = .ok (.aload_n 0, 1) := by decide +kernel
theorem dX4_unrivalledIn_1 : decode cX4_unrivalledIn 1 = .ok (.iload_n 1, 1) := by decide +kernel
theorem dX4_unrivalledIn_2 : decode cX4_unrivalledIn 2 = .ok (.iload_n 2, 1) := by decide +kernel
theorem dX4_unrivalledIn_3 : decode cX4_unrivalledIn 3 = .ok (.invokevirtual 82, 3) := by decide +kernel
theorem dX4_unrivalledIn_6 : decode cX4_unrivalledIn 6 = .ok (.ifCond .ne 5, 3) := by decide +kernel
theorem dX4_unrivalledIn_9 : decode cX4_unrivalledIn 9 = .ok (.iconst 0, 1) := by decide +kernel
theorem dX4_unrivalledIn_10 : decode cX4_unrivalledIn 10 = .ok (.ireturn, 1) := by decide +kernel
theorem dX4_unrivalledIn_11 : decode cX4_unrivalledIn 11 = .ok (.aload_n 0, 1) := by decide +kernel
theorem dX4_unrivalledIn_12 : decode cX4_unrivalledIn 12 = .ok (.getfield 33, 3) := by decide +kernel
theorem dX4_unrivalledIn_15 : decode cX4_unrivalledIn 15 = .ok (.iload_n 1, 1) := by decide +kernel
theorem dX4_unrivalledIn_16 : decode cX4_unrivalledIn 16 = .ok (.iaload, 1) := by decide +kernel
theorem dX4_unrivalledIn_17 : decode cX4_unrivalledIn 17 = .ok (.sipush 200, 3) := by decide +kernel
theorem dX4_unrivalledIn_20 : decode cX4_unrivalledIn 20 = .ok (.aload_n 0, 1) := by decide +kernel
theorem dX4_unrivalledIn_21 : decode cX4_unrivalledIn 21 = .ok (.getfield 18, 3) := by decide +kernel
theorem dX4_unrivalledIn_24 : decode cX4_unrivalledIn 24 = .ok (.aload_n 0, 1) := by decide +kernel
theorem dX4_unrivalledIn_25 : decode cX4_unrivalledIn 25 = .ok (.getfield 30, 3) := by decide +kernel
theorem dX4_unrivalledIn_28 : decode cX4_unrivalledIn 28 = .ok (.iload_n 1, 1) := by decide +kernel
theorem dX4_unrivalledIn_29 : decode cX4_unrivalledIn 29 = .ok (.iaload, 1) := by decide +kernel
theorem dX4_unrivalledIn_30 : decode cX4_unrivalledIn 30 = .ok (.iaload, 1) := by decide +kernel
theorem dX4_unrivalledIn_31 : decode cX4_unrivalledIn 31 = .ok (.isub, 1) := by decide +kernel
theorem dX4_unrivalledIn_32 : decode cX4_unrivalledIn 32 = .ok (.imul, 1) := by decide +kernel
theorem dX4_unrivalledIn_33 : decode cX4_unrivalledIn 33 = .ok (.sipush 200, 3) := by decide +kernel
theorem dX4_unrivalledIn_36 : decode cX4_unrivalledIn 36 = .ok (.idiv, 1) := by decide +kernel
theorem dX4_unrivalledIn_37 : decode cX4_unrivalledIn 37 = .ok (.istore_n 3, 1) := by decide +kernel
theorem dX4_unrivalledIn_38 : decode cX4_unrivalledIn 38 = .ok (.aload_n 0, 1) := by decide +kernel
theorem dX4_unrivalledIn_39 : decode cX4_unrivalledIn 39 = .ok (.getfield 27, 3) := by decide +kernel
theorem dX4_unrivalledIn_42 : decode cX4_unrivalledIn 42 = .ok (.iload_n 1, 1) := by decide +kernel
theorem dX4_unrivalledIn_43 : decode cX4_unrivalledIn 43 = .ok (.iaload, 1) := by decide +kernel
theorem dX4_unrivalledIn_44 : decode cX4_unrivalledIn 44 = .ok (.tableswitch 57 1 3 #[28, 35, 53], 28) := by decide +kernel
theorem dX4_unrivalledIn_72 : decode cX4_unrivalledIn 72 = .ok (.aload_n 0, 1) := by decide +kernel
theorem dX4_unrivalledIn_73 : decode cX4_unrivalledIn 73 = .ok (.getfield 33, 3) := by decide +kernel
theorem dX4_unrivalledIn_76 : decode cX4_unrivalledIn 76 = .ok (.iload_n 1, 1) := by decide +kernel
theorem dX4_unrivalledIn_77 : decode cX4_unrivalledIn 77 = .ok (.iaload, 1) := by decide +kernel
theorem dX4_unrivalledIn_78 : decode cX4_unrivalledIn 78 = .ok (.ireturn, 1) := by decide +kernel
theorem dX4_unrivalledIn_79 : decode cX4_unrivalledIn 79 = .ok (.iload_n 3, 1) := by decide +kernel
theorem dX4_unrivalledIn_80 : decode cX4_unrivalledIn 80 = .ok (.aload_n 0, 1) := by decide +kernel
theorem dX4_unrivalledIn_81 : decode cX4_unrivalledIn 81 = .ok (.getfield 21, 3) := by decide +kernel
theorem dX4_unrivalledIn_84 : decode cX4_unrivalledIn 84 = .ok (.aload_n 0, 1) := by decide +kernel
theorem dX4_unrivalledIn_85 : decode cX4_unrivalledIn 85 = .ok (.getfield 30, 3) := by decide +kernel
theorem dX4_unrivalledIn_88 : decode cX4_unrivalledIn 88 = .ok (.iload_n 1, 1) := by decide +kernel
theorem dX4_unrivalledIn_89 : decode cX4_unrivalledIn 89 = .ok (.iaload, 1) := by decide +kernel
theorem dX4_unrivalledIn_90 : decode cX4_unrivalledIn 90 = .ok (.iaload, 1) := by decide +kernel
theorem dX4_unrivalledIn_91 : decode cX4_unrivalledIn 91 = .ok (.iconst 2, 1) := by decide +kernel
theorem dX4_unrivalledIn_92 : decode cX4_unrivalledIn 92 = .ok (.idiv, 1) := by decide +kernel
theorem dX4_unrivalledIn_93 : decode cX4_unrivalledIn 93 = .ok (.invokestatic 86, 3) := by decide +kernel
theorem dX4_unrivalledIn_96 : decode cX4_unrivalledIn 96 = .ok (.ireturn, 1) := by decide +kernel
theorem dX4_unrivalledIn_97 : decode cX4_unrivalledIn 97 = .ok (.iload_n 3, 1) := by decide +kernel
theorem dX4_unrivalledIn_98 : decode cX4_unrivalledIn 98 = .ok (.iconst 2, 1) := by decide +kernel
theorem dX4_unrivalledIn_99 : decode cX4_unrivalledIn 99 = .ok (.idiv, 1) := by decide +kernel
theorem dX4_unrivalledIn_100 : decode cX4_unrivalledIn 100 = .ok (.ireturn, 1) := by decide +kernel
theorem dX4_unrivalledIn_101 : decode cX4_unrivalledIn 101 = .ok (.iload_n 3, 1) := by decide +kernel
theorem dX4_unrivalledIn_102 : decode cX4_unrivalledIn 102 = .ok (.ireturn, 1) := by decide +kernel
theorem dX4_loveIn_0 : decode cX4_loveIn 0 = .ok (.aload_n 0, 1) := by decide +kernel
theorem dX4_loveIn_1 : decode cX4_loveIn 1 = .ok (.iload_n 1, 1) := by decide +kernel
theorem dX4_loveIn_2 : decode cX4_loveIn 2 = .ok (.iload_n 2, 1) := by decide +kernel
theorem dX4_loveIn_3 : decode cX4_loveIn 3 = .ok (.invokevirtual 92, 3) := by decide +kernel
theorem dX4_loveIn_6 : decode cX4_loveIn 6 = .ok (.istore_n 3, 1) := by decide +kernel
theorem dX4_loveIn_7 : decode cX4_loveIn 7 = .ok (.iconst 0, 1) := by decide +kernel
theorem dX4_loveIn_8 : decode cX4_loveIn 8 = .ok (.istore 4, 2) := by decide +kernel
theorem dX4_loveIn_10 : decode cX4_loveIn 10 = .ok (.iload 4, 2) := by decide +kernel
theorem dX4_loveIn_12 : decode cX4_loveIn 12 = .ok (.aload_n 0, 1) := by decide +kernel
theorem dX4_loveIn_13 : decode cX4_loveIn 13 = .ok (.getfield 13, 3) := by decide +kernel
theorem dX4_loveIn_16 : decode cX4_loveIn 16 = .ok (.iconst 3, 1) := by decide +kernel
theorem dX4_loveIn_17 : decode cX4_loveIn 17 = .ok (.iaload, 1) := by decide +kernel
theorem dX4_loveIn_18 : decode cX4_loveIn 18 = .ok (.if_icmp .ge 36, 3) := by decide +kernel
theorem dX4_loveIn_21 : decode cX4_loveIn 21 = .ok (.aload_n 0, 1) := by decide +kernel
theorem dX4_loveIn_22 : decode cX4_loveIn 22 = .ok (.getfield 39, 3) := by decide +kernel
theorem dX4_loveIn_25 : decode cX4_loveIn 25 = .ok (.iload 4, 2) := by decide +kernel
theorem dX4_loveIn_27 : decode cX4_loveIn 27 = .ok (.iaload, 1) := by decide +kernel
theorem dX4_loveIn_28 : decode cX4_loveIn 28 = .ok (.iload_n 1, 1) := by decide +kernel
theorem dX4_loveIn_29 : decode cX4_loveIn 29 = .ok (.if_icmp .ne 19, 3) := by decide +kernel
theorem dX4_loveIn_32 : decode cX4_loveIn 32 = .ok (.iload_n 3, 1) := by decide +kernel
theorem dX4_loveIn_33 : decode cX4_loveIn 33 = .ok (.bipush 100, 2) := by decide +kernel
theorem dX4_loveIn_35 : decode cX4_loveIn 35 = .ok (.aload_n 0, 1) := by decide +kernel
theorem dX4_loveIn_36 : decode cX4_loveIn 36 = .ok (.getfield 42, 3) := by decide +kernel
theorem dX4_loveIn_39 : decode cX4_loveIn 39 = .ok (.iload 4, 2) := by decide +kernel
theorem dX4_loveIn_41 : decode cX4_loveIn 41 = .ok (.iaload, 1) := by decide +kernel
theorem dX4_loveIn_42 : decode cX4_loveIn 42 = .ok (.isub, 1) := by decide +kernel
theorem dX4_loveIn_43 : decode cX4_loveIn 43 = .ok (.imul, 1) := by decide +kernel
theorem dX4_loveIn_44 : decode cX4_loveIn 44 = .ok (.bipush 100, 2) := by decide +kernel
theorem dX4_loveIn_46 : decode cX4_loveIn 46 = .ok (.idiv, 1) := by decide +kernel
theorem dX4_loveIn_47 : decode cX4_loveIn 47 = .ok (.istore_n 3, 1) := by decide +kernel
theorem dX4_loveIn_48 : decode cX4_loveIn 48 = .ok (.iinc 4 1, 3) := by decide +kernel
theorem dX4_loveIn_51 : decode cX4_loveIn 51 = .ok (.goto (-41), 3) := by decide +kernel
theorem dX4_loveIn_54 : decode cX4_loveIn 54 = .ok (.iload_n 3, 1) := by decide +kernel
theorem dX4_loveIn_55 : decode cX4_loveIn 55 = .ok (.ireturn, 1) := by decide +kernel
theorem dX4_loveAt_0 : decode cX4_loveAt 0 = .ok (.aload_n 0, 1) := by decide +kernel
theorem dX4_loveAt_1 : decode cX4_loveAt 1 = .ok (.iload_n 1, 1) := by decide +kernel
theorem dX4_loveAt_2 : decode cX4_loveAt 2 = .ok (.iload_n 2, 1) := by decide +kernel
theorem dX4_loveAt_3 : decode cX4_loveAt 3 = .ok (.aload_n 0, 1) := by decide +kernel
theorem dX4_loveAt_4 : decode cX4_loveAt 4 = .ok (.getfield 63, 3) := by decide +kernel
theorem dX4_loveAt_7 : decode cX4_loveAt 7 = .ok (.imul, 1) := by decide +kernel
theorem dX4_loveAt_8 : decode cX4_loveAt 8 = .ok (.invokevirtual 95, 3) := by decide +kernel
theorem dX4_loveAt_11 : decode cX4_loveAt 11 = .ok (.ireturn, 1) := by decide +kernel
theorem dX4_loveOfAllIn_0 : decode cX4_loveOfAllIn 0 = .ok (.iconst 0, 1) := by decide +kernel
theorem dX4_loveOfAllIn_1 : decode cX4_loveOfAllIn 1 = .ok (.istore_n 2, 1) := by decide +kernel
theorem dX4_loveOfAllIn_2 : decode cX4_loveOfAllIn 2 = .ok (.iconst 0, 1) := by decide +kernel
theorem dX4_loveOfAllIn_3 : decode cX4_loveOfAllIn 3 = .ok (.istore_n 3, 1) := by decide +kernel
theorem dX4_loveOfAllIn_4 : decode cX4_loveOfAllIn 4 = .ok (.iload_n 3, 1) := by decide +kernel
theorem dX4_loveOfAllIn_5 : decode cX4_loveOfAllIn 5 = .ok (.aload_n 0, 1) := by decide +kernel
theorem dX4_loveOfAllIn_6 : decode cX4_loveOfAllIn 6 = .ok (.getfield 13, 3) := by decide +kernel
theorem dX4_loveOfAllIn_9 : decode cX4_loveOfAllIn 9 = .ok (.iconst 2, 1) := by decide +kernel
theorem dX4_loveOfAllIn_10 : decode cX4_loveOfAllIn 10 = .ok (.iaload, 1) := by decide +kernel
theorem dX4_loveOfAllIn_11 : decode cX4_loveOfAllIn 11 = .ok (.if_icmp .ge 18, 3) := by decide +kernel
theorem dX4_loveOfAllIn_14 : decode cX4_loveOfAllIn 14 = .ok (.iload_n 2, 1) := by decide +kernel
theorem dX4_loveOfAllIn_15 : decode cX4_loveOfAllIn 15 = .ok (.aload_n 0, 1) := by decide +kernel
theorem dX4_loveOfAllIn_16 : decode cX4_loveOfAllIn 16 = .ok (.iload_n 3, 1) := by decide +kernel
theorem dX4_loveOfAllIn_17 : decode cX4_loveOfAllIn 17 = .ok (.iload_n 1, 1) := by decide +kernel
theorem dX4_loveOfAllIn_18 : decode cX4_loveOfAllIn 18 = .ok (.invokevirtual 95, 3) := by decide +kernel
theorem dX4_loveOfAllIn_21 : decode cX4_loveOfAllIn 21 = .ok (.iadd, 1) := by decide +kernel
theorem dX4_loveOfAllIn_22 : decode cX4_loveOfAllIn 22 = .ok (.istore_n 2, 1) := by decide +kernel
theorem dX4_loveOfAllIn_23 : decode cX4_loveOfAllIn 23 = .ok (.iinc 3 1, 3) := by decide +kernel
theorem dX4_loveOfAllIn_26 : decode cX4_loveOfAllIn 26 = .ok (.goto (-22), 3) := by decide +kernel
theorem dX4_loveOfAllIn_29 : decode cX4_loveOfAllIn 29 = .ok (.iload_n 2, 1) := by decide +kernel
theorem dX4_loveOfAllIn_30 : decode cX4_loveOfAllIn 30 = .ok (.ireturn, 1) := by decide +kernel
theorem dX4_dearest_0 : decode cX4_dearest 0 = .ok (.bipush (-2), 2) := by decide +kernel
theorem dX4_dearest_2 : decode cX4_dearest 2 = .ok (.istore 4, 2) := by decide +kernel
theorem dX4_dearest_4 : decode cX4_dearest 4 = .ok (.iconst 0, 1) := by decide +kernel
theorem dX4_dearest_5 : decode cX4_dearest 5 = .ok (.istore 5, 2) := by decide +kernel
theorem dX4_dearest_7 : decode cX4_dearest 7 = .ok (.iconst 0, 1) := by decide +kernel
theorem dX4_dearest_8 : decode cX4_dearest 8 = .ok (.istore 6, 2) := by decide +kernel
theorem dX4_dearest_10 : decode cX4_dearest 10 = .ok (.iload 6, 2) := by decide +kernel
theorem dX4_dearest_12 : decode cX4_dearest 12 = .ok (.aload_n 0, 1) := by decide +kernel
theorem dX4_dearest_13 : decode cX4_dearest 13 = .ok (.getfield 13, 3) := by decide +kernel
theorem dX4_dearest_16 : decode cX4_dearest 16 = .ok (.iconst 2, 1) := by decide +kernel
theorem dX4_dearest_17 : decode cX4_dearest 17 = .ok (.iaload, 1) := by decide +kernel
theorem dX4_dearest_18 : decode cX4_dearest 18 = .ok (.if_icmp .ge 64, 3) := by decide +kernel
theorem dX4_dearest_21 : decode cX4_dearest 21 = .ok (.iload_n 1, 1) := by decide +kernel
theorem dX4_dearest_22 : decode cX4_dearest 22 = .ok (.aload_n 0, 1) := by decide +kernel
theorem dX4_dearest_23 : decode cX4_dearest 23 = .ok (.getfield 30, 3) := by decide +kernel
theorem dX4_dearest_26 : decode cX4_dearest 26 = .ok (.iload 6, 2) := by decide +kernel
theorem dX4_dearest_28 : decode cX4_dearest 28 = .ok (.iaload, 1) := by decide +kernel
theorem dX4_dearest_29 : decode cX4_dearest 29 = .ok (.ishr, 1) := by decide +kernel
theorem dX4_dearest_30 : decode cX4_dearest 30 = .ok (.iconst 1, 1) := by decide +kernel
theorem dX4_dearest_31 : decode cX4_dearest 31 = .ok (.iand, 1) := by decide +kernel
theorem dX4_dearest_32 : decode cX4_dearest 32 = .ok (.ifCond .eq 44, 3) := by decide +kernel
theorem dX4_dearest_35 : decode cX4_dearest 35 = .ok (.iload_n 2, 1) := by decide +kernel
theorem dX4_dearest_36 : decode cX4_dearest 36 = .ok (.iload 6, 2) := by decide +kernel
theorem dX4_dearest_38 : decode cX4_dearest 38 = .ok (.ishr, 1) := by decide +kernel
theorem dX4_dearest_39 : decode cX4_dearest 39 = .ok (.iconst 1, 1) := by decide +kernel
theorem dX4_dearest_40 : decode cX4_dearest 40 = .ok (.iand, 1) := by decide +kernel
theorem dX4_dearest_41 : decode cX4_dearest 41 = .ok (.ifCond .eq 6, 3) := by decide +kernel
theorem dX4_dearest_44 : decode cX4_dearest 44 = .ok (.goto 32, 3) := by decide +kernel
theorem dX4_dearest_47 : decode cX4_dearest 47 = .ok (.aload_n 0, 1) := by decide +kernel
theorem dX4_dearest_48 : decode cX4_dearest 48 = .ok (.iload 6, 2) := by decide +kernel
theorem dX4_dearest_50 : decode cX4_dearest 50 = .ok (.iload_n 3, 1) := by decide +kernel
theorem dX4_dearest_51 : decode cX4_dearest 51 = .ok (.aload_n 0, 1) := by decide +kernel
theorem dX4_dearest_52 : decode cX4_dearest 52 = .ok (.getfield 63, 3) := by decide +kernel
theorem dX4_dearest_55 : decode cX4_dearest 55 = .ok (.imul, 1) := by decide +kernel
theorem dX4_dearest_56 : decode cX4_dearest 56 = .ok (.invokevirtual 95, 3) := by decide +kernel
theorem dX4_dearest_59 : decode cX4_dearest 59 = .ok (.istore 7, 2) := by decide +kernel
theorem dX4_dearest_61 : decode cX4_dearest 61 = .ok (.iload 7, 2) := by decide +kernel
theorem dX4_dearest_63 : decode cX4_dearest 63 = .ok (.iload 5, 2) := by decide +kernel
theorem dX4_dearest_65 : decode cX4_dearest 65 = .ok (.if_icmp .le 11, 3) := by decide +kernel
theorem dX4_dearest_68 : decode cX4_dearest 68 = .ok (.iload 7, 2) := by decide +kernel
theorem dX4_dearest_70 : decode cX4_dearest 70 = .ok (.istore 5, 2) := by decide +kernel
theorem dX4_dearest_72 : decode cX4_dearest 72 = .ok (.iload 6, 2) := by decide +kernel
theorem dX4_dearest_74 : decode cX4_dearest 74 = .ok (.istore 4, 2) := by decide +kernel
theorem dX4_dearest_76 : decode cX4_dearest 76 = .ok (.iinc 6 1, 3) := by decide +kernel
theorem dX4_dearest_79 : decode cX4_dearest 79 = .ok (.goto (-69), 3) := by decide +kernel
theorem dX4_dearest_82 : decode cX4_dearest 82 = .ok (.iload 4, 2) := by decide +kernel
theorem dX4_dearest_84 : decode cX4_dearest 84 = .ok (.ireturn, 1) := by decide +kernel
theorem dX4_overTrial_0 : decode cX4_overTrial 0 = .ok (.lconst 1, 1) := by decide +kernel
theorem dX4_overTrial_1 : decode cX4_overTrial 1 = .ok (.lstore_n 2, 1) := by decide +kernel
theorem dX4_overTrial_2 : decode cX4_overTrial 2 = .ok (.iconst 0, 1) := by decide +kernel
theorem dX4_overTrial_3 : decode cX4_overTrial 3 = .ok (.istore 4, 2) := by decide +kernel
theorem dX4_overTrial_5 : decode cX4_overTrial 5 = .ok (.iload 4, 2) := by decide +kernel
theorem dX4_overTrial_7 : decode cX4_overTrial 7 = .ok (.aload_n 0, 1) := by decide +kernel
theorem dX4_overTrial_8 : decode cX4_overTrial 8 = .ok (.getfield 67, 3) := by decide +kernel
theorem dX4_overTrial_11 : decode cX4_overTrial 11 = .ok (.if_icmp .ge 14, 3) := by decide +kernel
theorem dX4_overTrial_14 : decode cX4_overTrial 14 = .ok (.lload_n 2, 1) := by decide +kernel
theorem dX4_overTrial_15 : decode cX4_overTrial 15 = .ok (.iload_n 1, 1) := by decide +kernel
theorem dX4_overTrial_16 : decode cX4_overTrial 16 = .ok (.i2l, 1) := by decide +kernel
theorem dX4_overTrial_17 : decode cX4_overTrial 17 = .ok (.lmul, 1) := by decide +kernel
theorem dX4_overTrial_18 : decode cX4_overTrial 18 = .ok (.lstore_n 2, 1) := by decide +kernel
theorem dX4_overTrial_19 : decode cX4_overTrial 19 = .ok (.iinc 4 1, 3) := by decide +kernel
theorem dX4_overTrial_22 : decode cX4_overTrial 22 = .ok (.goto (-17), 3) := by decide +kernel
theorem dX4_overTrial_25 : decode cX4_overTrial 25 = .ok (.lload_n 2, 1) := by decide +kernel
theorem dX4_overTrial_26 : decode cX4_overTrial 26 = .ok (.lreturn, 1) := by decide +kernel
theorem dX4_womenFitting_0 : decode cX4_womenFitting 0 = .ok (.iconst 0, 1) := by decide +kernel
theorem dX4_womenFitting_1 : decode cX4_womenFitting 1 = .ok (.istore_n 2, 1) := by decide +kernel
theorem dX4_womenFitting_2 : decode cX4_womenFitting 2 = .ok (.iconst 0, 1) := by decide +kernel
theorem dX4_womenFitting_3 : decode cX4_womenFitting 3 = .ok (.istore_n 3, 1) := by decide +kernel
theorem dX4_womenFitting_4 : decode cX4_womenFitting 4 = .ok (.iload_n 3, 1) := by decide +kernel
theorem dX4_womenFitting_5 : decode cX4_womenFitting 5 = .ok (.aload_n 0, 1) := by decide +kernel
theorem dX4_womenFitting_6 : decode cX4_womenFitting 6 = .ok (.getfield 13, 3) := by decide +kernel
theorem dX4_womenFitting_9 : decode cX4_womenFitting 9 = .ok (.iconst 2, 1) := by decide +kernel
theorem dX4_womenFitting_10 : decode cX4_womenFitting 10 = .ok (.iaload, 1) := by decide +kernel
theorem dX4_womenFitting_11 : decode cX4_womenFitting 11 = .ok (.if_icmp .ge 42, 3) := by decide +kernel
theorem dX4_womenFitting_14 : decode cX4_womenFitting 14 = .ok (.aload_n 0, 1) := by decide +kernel
theorem dX4_womenFitting_15 : decode cX4_womenFitting 15 = .ok (.getfield 57, 3) := by decide +kernel
theorem dX4_womenFitting_18 : decode cX4_womenFitting 18 = .ok (.iload_n 1, 1) := by decide +kernel
theorem dX4_womenFitting_19 : decode cX4_womenFitting 19 = .ok (.iaload, 1) := by decide +kernel
theorem dX4_womenFitting_20 : decode cX4_womenFitting 20 = .ok (.aload_n 0, 1) := by decide +kernel
theorem dX4_womenFitting_21 : decode cX4_womenFitting 21 = .ok (.getfield 63, 3) := by decide +kernel
theorem dX4_womenFitting_24 : decode cX4_womenFitting 24 = .ok (.imul, 1) := by decide +kernel
theorem dX4_womenFitting_25 : decode cX4_womenFitting 25 = .ok (.aload_n 0, 1) := by decide +kernel
theorem dX4_womenFitting_26 : decode cX4_womenFitting 26 = .ok (.getfield 36, 3) := by decide +kernel
theorem dX4_womenFitting_29 : decode cX4_womenFitting 29 = .ok (.iload_n 3, 1) := by decide +kernel
theorem dX4_womenFitting_30 : decode cX4_womenFitting 30 = .ok (.iaload, 1) := by decide +kernel
theorem dX4_womenFitting_31 : decode cX4_womenFitting 31 = .ok (.isub, 1) := by decide +kernel
theorem dX4_womenFitting_32 : decode cX4_womenFitting 32 = .ok (.aload_n 0, 1) := by decide +kernel
theorem dX4_womenFitting_33 : decode cX4_womenFitting 33 = .ok (.getfield 60, 3) := by decide +kernel
theorem dX4_womenFitting_36 : decode cX4_womenFitting 36 = .ok (.iload_n 1, 1) := by decide +kernel
theorem dX4_womenFitting_37 : decode cX4_womenFitting 37 = .ok (.iaload, 1) := by decide +kernel
theorem dX4_womenFitting_38 : decode cX4_womenFitting 38 = .ok (.if_icmp .ne 9, 3) := by decide +kernel
theorem dX4_womenFitting_41 : decode cX4_womenFitting 41 = .ok (.iload_n 2, 1) := by decide +kernel
theorem dX4_womenFitting_42 : decode cX4_womenFitting 42 = .ok (.iconst 1, 1) := by decide +kernel
theorem dX4_womenFitting_43 : decode cX4_womenFitting 43 = .ok (.iload_n 3, 1) := by decide +kernel
theorem dX4_womenFitting_44 : decode cX4_womenFitting 44 = .ok (.ishl, 1) := by decide +kernel
theorem dX4_womenFitting_45 : decode cX4_womenFitting 45 = .ok (.ior, 1) := by decide +kernel
theorem dX4_womenFitting_46 : decode cX4_womenFitting 46 = .ok (.istore_n 2, 1) := by decide +kernel
theorem dX4_womenFitting_47 : decode cX4_womenFitting 47 = .ok (.iinc 3 1, 3) := by decide +kernel
theorem dX4_womenFitting_50 : decode cX4_womenFitting 50 = .ok (.goto (-46), 3) := by decide +kernel
theorem dX4_womenFitting_53 : decode cX4_womenFitting 53 = .ok (.iload_n 2, 1) := by decide +kernel
theorem dX4_womenFitting_54 : decode cX4_womenFitting 54 = .ok (.ireturn, 1) := by decide +kernel
theorem dX4_servedIn_0 : decode cX4_servedIn 0 = .ok (.aload_n 0, 1) := by decide +kernel
theorem dX4_servedIn_1 : decode cX4_servedIn 1 = .ok (.getfield 54, 3) := by decide +kernel
theorem dX4_servedIn_4 : decode cX4_servedIn 4 = .ok (.iload_n 1, 1) := by decide +kernel
theorem dX4_servedIn_5 : decode cX4_servedIn 5 = .ok (.iaload, 1) := by decide +kernel
theorem dX4_servedIn_6 : decode cX4_servedIn 6 = .ok (.iconst 0, 1) := by decide +kernel
theorem dX4_servedIn_7 : decode cX4_servedIn 7 = .ok (.iload_n 2, 1) := by decide +kernel
theorem dX4_servedIn_8 : decode cX4_servedIn 8 = .ok (.aload_n 0, 1) := by decide +kernel
theorem dX4_servedIn_9 : decode cX4_servedIn 9 = .ok (.getfield 51, 3) := by decide +kernel
theorem dX4_servedIn_12 : decode cX4_servedIn 12 = .ok (.iload_n 1, 1) := by decide +kernel
theorem dX4_servedIn_13 : decode cX4_servedIn 13 = .ok (.iaload, 1) := by decide +kernel
theorem dX4_servedIn_14 : decode cX4_servedIn 14 = .ok (.isub, 1) := by decide +kernel
theorem dX4_servedIn_15 : decode cX4_servedIn 15 = .ok (.invokestatic 86, 3) := by decide +kernel
theorem dX4_servedIn_18 : decode cX4_servedIn 18 = .ok (.imul, 1) := by decide +kernel
theorem dX4_servedIn_19 : decode cX4_servedIn 19 = .ok (.ireturn, 1) := by decide +kernel
theorem dX5_init_0 : decode cX5_init 0 = .ok (.aload_n 0, 1) := by decide +kernel
theorem dX5_init_1 : decode cX5_init 1 = .ok (.invokespecial 3, 3) := by decide +kernel
theorem dX5_init_4 : decode cX5_init 4 = .ok (.aload_n 0, 1) := by decide +kernel
theorem dX5_init_5 : decode cX5_init 5 = .ok (.bipush 16, 2) := by decide +kernel
theorem dX5_init_7 : decode cX5_init 7 = .ok (.anewarray 11, 3) := by decide +kernel
theorem dX5_init_10 : decode cX5_init 10 = .ok (.putfield 13, 3) := by decide +kernel
theorem dX5_init_13 : decode cX5_init 13 = .ok (.aload_n 0, 1) := by decide +kernel
theorem dX5_init_14 : decode cX5_init 14 = .ok (.iconst 3, 1) := by decide +kernel
theorem dX5_init_15 : decode cX5_init 15 = .ok (.anewarray 11, 3) := by decide +kernel
theorem dX5_init_18 : decode cX5_init 18 = .ok (.putfield 17, 3) := by decide +kernel
theorem dX5_init_21 : decode cX5_init 21 = .ok (.aload_n 0, 1) := by decide +kernel
theorem dX5_init_22 : decode cX5_init 22 = .ok (.iconst 0, 1) := by decide +kernel
theorem dX5_init_23 : decode cX5_init 23 = .ok (.putfield 20, 3) := by decide +kernel
theorem dX5_init_26 : decode cX5_init 26 = .ok (.aload_n 0, 1) := by decide +kernel
theorem dX5_init_27 : decode cX5_init 27 = .ok (.iconst 0, 1) := by decide +kernel
theorem dX5_init_28 : decode cX5_init 28 = .ok (.putfield 24, 3) := by decide +kernel
theorem dX5_init_31 : decode cX5_init 31 = .ok (.iconst 0, 1) := by decide +kernel
theorem dX5_init_32 : decode cX5_init 32 = .ok (.istore_n 1, 1) := by decide +kernel
theorem dX5_init_33 : decode cX5_init 33 = .ok (.iload_n 1, 1) := by decide +kernel
theorem dX5_init_34 : decode cX5_init 34 = .ok (.bipush 16, 2) := by decide +kernel
theorem dX5_init_36 : decode cX5_init 36 = .ok (.if_icmp .ge 22, 3) := by decide +kernel
theorem dX5_init_39 : decode cX5_init 39 = .ok (.aload_n 0, 1) := by decide +kernel
theorem dX5_init_40 : decode cX5_init 40 = .ok (.getfield 13, 3) := by decide +kernel
theorem dX5_init_43 : decode cX5_init 43 = .ok (.iload_n 1, 1) := by decide +kernel
theorem dX5_init_44 : decode cX5_init 44 = .ok (.new 11, 3) := by decide +kernel
theorem dX5_init_47 : decode cX5_init 47 = .ok (.dup, 1) := by decide +kernel
theorem dX5_init_48 : decode cX5_init 48 = .ok (.invokespecial 27, 3) := by decide +kernel
theorem dX5_init_51 : decode cX5_init 51 = .ok (.aastore, 1) := by decide +kernel
theorem dX5_init_52 : decode cX5_init 52 = .ok (.iinc 1 1, 3) := by decide +kernel
theorem dX5_init_55 : decode cX5_init 55 = .ok (.goto (-22), 3) := by decide +kernel
theorem dX5_init_58 : decode cX5_init 58 = .ok (.iconst 0, 1) := by decide +kernel
theorem dX5_init_59 : decode cX5_init 59 = .ok (.istore_n 1, 1) := by decide +kernel
theorem dX5_init_60 : decode cX5_init 60 = .ok (.iload_n 1, 1) := by decide +kernel
theorem dX5_init_61 : decode cX5_init 61 = .ok (.iconst 3, 1) := by decide +kernel
theorem dX5_init_62 : decode cX5_init 62 = .ok (.if_icmp .ge 22, 3) := by decide +kernel
theorem dX5_init_65 : decode cX5_init 65 = .ok (.aload_n 0, 1) := by decide +kernel
theorem dX5_init_66 : decode cX5_init 66 = .ok (.getfield 17, 3) := by decide +kernel
theorem dX5_init_69 : decode cX5_init 69 = .ok (.iload_n 1, 1) := by decide +kernel
theorem dX5_init_70 : decode cX5_init 70 = .ok (.new 11, 3) := by decide +kernel
theorem dX5_init_73 : decode cX5_init 73 = .ok (.dup, 1) := by decide +kernel
theorem dX5_init_74 : decode cX5_init 74 = .ok (.invokespecial 27, 3) := by decide +kernel
theorem dX5_init_77 : decode cX5_init 77 = .ok (.aastore, 1) := by decide +kernel
theorem dX5_init_78 : decode cX5_init 78 = .ok (.iinc 1 1, 3) := by decide +kernel
theorem dX5_init_81 : decode cX5_init 81 = .ok (.goto (-21), 3) := by decide +kernel
theorem dX5_init_84 : decode cX5_init 84 = .ok (.return_, 1) := by decide +kernel
theorem dX5_forget_0 : decode cX5_forget 0 = .ok (.aload_n 0, 1) := by decide +kernel
theorem dX5_forget_1 : decode cX5_forget 1 = .ok (.iconst 0, 1) := by decide +kernel
theorem dX5_forget_2 : decode cX5_forget 2 = .ok (.putfield 20, 3) := by decide +kernel
theorem dX5_forget_5 : decode cX5_forget 5 = .ok (.aload_n 0, 1) := by decide +kernel
theorem dX5_forget_6 : decode cX5_forget 6 = .ok (.iconst 0, 1) := by decide +kernel
theorem dX5_forget_7 : decode cX5_forget 7 = .ok (.putfield 24, 3) := by decide +kernel
theorem dX5_forget_10 : decode cX5_forget 10 = .ok (.return_, 1) := by decide +kernel
theorem dX5_keep_0 : decode cX5_keep 0 = .ok (.aload_n 0, 1) := by decide +kernel
theorem dX5_keep_1 : decode cX5_keep 1 = .ok (.getfield 20, 3) := by decide +kernel
theorem dX5_keep_4 : decode cX5_keep 4 = .ok (.bipush 16, 2) := by decide +kernel
theorem dX5_keep_6 : decode cX5_keep 6 = .ok (.if_icmp .ne 7, 3) := by decide +kernel
theorem dX5_keep_9 : decode cX5_keep 9 = .ok (.aload_n 0, 1) := by decide +kernel
theorem dX5_keep_10 : decode cX5_keep 10 = .ok (.invokevirtual 28, 3) := by decide +kernel
theorem dX5_keep_13 : decode cX5_keep 13 = .ok (.aload_n 0, 1) := by decide +kernel
theorem dX5_keep_14 : decode cX5_keep 14 = .ok (.getfield 13, 3) := by decide +kernel
theorem dX5_keep_17 : decode cX5_keep 17 = .ok (.aload_n 0, 1) := by decide +kernel
theorem dX5_keep_18 : decode cX5_keep 18 = .ok (.getfield 20, 3) := by decide +kernel
theorem dX5_keep_21 : decode cX5_keep 21 = .ok (.aaload, 1) := by decide +kernel
theorem dX5_keep_22 : decode cX5_keep 22 = .ok (.aload_n 1, 1) := by decide +kernel
theorem dX5_keep_23 : decode cX5_keep 23 = .ok (.invokevirtual 31, 3) := by decide +kernel
theorem dX5_keep_26 : decode cX5_keep 26 = .ok (.aload_n 0, 1) := by decide +kernel
theorem dX5_keep_27 : decode cX5_keep 27 = .ok (.dup, 1) := by decide +kernel
theorem dX5_keep_28 : decode cX5_keep 28 = .ok (.getfield 20, 3) := by decide +kernel
theorem dX5_keep_31 : decode cX5_keep 31 = .ok (.iconst 1, 1) := by decide +kernel
theorem dX5_keep_32 : decode cX5_keep 32 = .ok (.iadd, 1) := by decide +kernel
theorem dX5_keep_33 : decode cX5_keep 33 = .ok (.putfield 20, 3) := by decide +kernel
theorem dX5_keep_36 : decode cX5_keep 36 = .ok (.return_, 1) := by decide +kernel
theorem dX5_dropOldest_0 : decode cX5_dropOldest 0 = .ok (.aload_n 0, 1) := by decide +kernel
theorem dX5_dropOldest_1 : decode cX5_dropOldest 1 = .ok (.getfield 13, 3) := by decide +kernel
theorem dX5_dropOldest_4 : decode cX5_dropOldest 4 = .ok (.iconst 0, 1) := by decide +kernel
theorem dX5_dropOldest_5 : decode cX5_dropOldest 5 = .ok (.aaload, 1) := by decide +kernel
theorem dX5_dropOldest_6 : decode cX5_dropOldest 6 = .ok (.astore_n 1, 1) := by decide +kernel
theorem dX5_dropOldest_7 : decode cX5_dropOldest 7 = .ok (.iconst 1, 1) := by decide +kernel
theorem dX5_dropOldest_8 : decode cX5_dropOldest 8 = .ok (.istore_n 2, 1) := by decide +kernel
theorem dX5_dropOldest_9 : decode cX5_dropOldest 9 = .ok (.iload_n 2, 1) := by decide +kernel
theorem dX5_dropOldest_10 : decode cX5_dropOldest 10 = .ok (.bipush 16, 2) := by decide +kernel
theorem dX5_dropOldest_12 : decode cX5_dropOldest 12 = .ok (.if_icmp .ge 23, 3) := by decide +kernel
theorem dX5_dropOldest_15 : decode cX5_dropOldest 15 = .ok (.aload_n 0, 1) := by decide +kernel
theorem dX5_dropOldest_16 : decode cX5_dropOldest 16 = .ok (.getfield 13, 3) := by decide +kernel
theorem dX5_dropOldest_19 : decode cX5_dropOldest 19 = .ok (.iload_n 2, 1) := by decide +kernel
theorem dX5_dropOldest_20 : decode cX5_dropOldest 20 = .ok (.iconst 1, 1) := by decide +kernel
theorem dX5_dropOldest_21 : decode cX5_dropOldest 21 = .ok (.isub, 1) := by decide +kernel
theorem dX5_dropOldest_22 : decode cX5_dropOldest 22 = .ok (.aload_n 0, 1) := by decide +kernel
theorem dX5_dropOldest_23 : decode cX5_dropOldest 23 = .ok (.getfield 13, 3) := by decide +kernel
theorem dX5_dropOldest_26 : decode cX5_dropOldest 26 = .ok (.iload_n 2, 1) := by decide +kernel
theorem dX5_dropOldest_27 : decode cX5_dropOldest 27 = .ok (.aaload, 1) := by decide +kernel
theorem dX5_dropOldest_28 : decode cX5_dropOldest 28 = .ok (.aastore, 1) := by decide +kernel
theorem dX5_dropOldest_29 : decode cX5_dropOldest 29 = .ok (.iinc 2 1, 3) := by decide +kernel
theorem dX5_dropOldest_32 : decode cX5_dropOldest 32 = .ok (.goto (-23), 3) := by decide +kernel
theorem dX5_dropOldest_35 : decode cX5_dropOldest 35 = .ok (.aload_n 0, 1) := by decide +kernel
theorem dX5_dropOldest_36 : decode cX5_dropOldest 36 = .ok (.getfield 13, 3) := by decide +kernel
theorem dX5_dropOldest_39 : decode cX5_dropOldest 39 = .ok (.bipush 15, 2) := by decide +kernel
theorem dX5_dropOldest_41 : decode cX5_dropOldest 41 = .ok (.aload_n 1, 1) := by decide +kernel
theorem dX5_dropOldest_42 : decode cX5_dropOldest 42 = .ok (.aastore, 1) := by decide +kernel
theorem dX5_dropOldest_43 : decode cX5_dropOldest 43 = .ok (.aload_n 0, 1) := by decide +kernel
theorem dX5_dropOldest_44 : decode cX5_dropOldest 44 = .ok (.bipush 15, 2) := by decide +kernel
theorem dX5_dropOldest_46 : decode cX5_dropOldest 46 = .ok (.putfield 20, 3) := by decide +kernel
theorem dX5_dropOldest_49 : decode cX5_dropOldest 49 = .ok (.return_, 1) := by decide +kernel
theorem dX5_takeBack_0 : decode cX5_takeBack 0 = .ok (.aload_n 0, 1) := by decide +kernel
theorem dX5_takeBack_1 : decode cX5_takeBack 1 = .ok (.getfield 20, 3) := by decide +kernel
theorem dX5_takeBack_4 : decode cX5_takeBack 4 = .ok (.ifCond .le 26, 3) := by decide +kernel
theorem dX5_takeBack_7 : decode cX5_takeBack 7 = .ok (.aload_n 0, 1) := by decide +kernel
theorem dX5_takeBack_8 : decode cX5_takeBack 8 = .ok (.dup, 1) := by decide +kernel
theorem dX5_takeBack_9 : decode cX5_takeBack 9 = .ok (.getfield 20, 3) := by decide +kernel
theorem dX5_takeBack_12 : decode cX5_takeBack 12 = .ok (.iconst 1, 1) := by decide +kernel
theorem dX5_takeBack_13 : decode cX5_takeBack 13 = .ok (.isub, 1) := by decide +kernel
theorem dX5_takeBack_14 : decode cX5_takeBack 14 = .ok (.putfield 20, 3) := by decide +kernel
theorem dX5_takeBack_17 : decode cX5_takeBack 17 = .ok (.aload_n 1, 1) := by decide +kernel
theorem dX5_takeBack_18 : decode cX5_takeBack 18 = .ok (.aload_n 0, 1) := by decide +kernel
theorem dX5_takeBack_19 : decode cX5_takeBack 19 = .ok (.getfield 13, 3) := by decide +kernel
theorem dX5_takeBack_22 : decode cX5_takeBack 22 = .ok (.aload_n 0, 1) := by decide +kernel
theorem dX5_takeBack_23 : decode cX5_takeBack 23 = .ok (.getfield 20, 3) := by decide +kernel
theorem dX5_takeBack_26 : decode cX5_takeBack 26 = .ok (.aaload, 1) := by decide +kernel
theorem dX5_takeBack_27 : decode cX5_takeBack 27 = .ok (.invokevirtual 31, 3) := by decide +kernel
theorem dX5_takeBack_30 : decode cX5_takeBack 30 = .ok (.return_, 1) := by decide +kernel
theorem dX5_hasRoomForImage_0 : decode cX5_hasRoomForImage 0 = .ok (.aload_n 0, 1) := by decide +kernel
theorem dX5_hasRoomForImage_1 : decode cX5_hasRoomForImage 1 = .ok (.getfield 24, 3) := by decide +kernel
theorem dX5_hasRoomForImage_4 : decode cX5_hasRoomForImage 4 = .ok (.iconst 3, 1) := by decide +kernel
theorem dX5_hasRoomForImage_5 : decode cX5_hasRoomForImage 5 = .ok (.if_icmp .ge 7, 3) := by decide +kernel
theorem dX5_hasRoomForImage_8 : decode cX5_hasRoomForImage 8 = .ok (.iconst 1, 1) := by decide +kernel
theorem dX5_hasRoomForImage_9 : decode cX5_hasRoomForImage 9 = .ok (.goto 4, 3) := by decide +kernel
theorem dX5_hasRoomForImage_12 : decode cX5_hasRoomForImage 12 = .ok (.iconst 0, 1) := by decide +kernel
theorem dX5_hasRoomForImage_13 : decode cX5_hasRoomForImage 13 = .ok (.ireturn, 1) := by decide +kernel
theorem dX5_keepImage_0 : decode cX5_keepImage 0 = .ok (.aload_n 0, 1) := by decide +kernel
theorem dX5_keepImage_1 : decode cX5_keepImage 1 = .ok (.invokevirtual 35, 3) := by decide +kernel
theorem dX5_keepImage_4 : decode cX5_keepImage 4 = .ok (.ifCond .ne 5, 3) := by decide +kernel
theorem dX5_keepImage_7 : decode cX5_keepImage 7 = .ok (.iconst (-1), 1) := by decide +kernel
theorem dX5_keepImage_8 : decode cX5_keepImage 8 = .ok (.ireturn, 1) := by decide +kernel
theorem dX5_keepImage_9 : decode cX5_keepImage 9 = .ok (.aload_n 0, 1) := by decide +kernel
theorem dX5_keepImage_10 : decode cX5_keepImage 10 = .ok (.getfield 17, 3) := by decide +kernel
theorem dX5_keepImage_13 : decode cX5_keepImage 13 = .ok (.aload_n 0, 1) := by decide +kernel
theorem dX5_keepImage_14 : decode cX5_keepImage 14 = .ok (.getfield 24, 3) := by decide +kernel
theorem dX5_keepImage_17 : decode cX5_keepImage 17 = .ok (.aaload, 1) := by decide +kernel
theorem dX5_keepImage_18 : decode cX5_keepImage 18 = .ok (.aload_n 1, 1) := by decide +kernel
theorem dX5_keepImage_19 : decode cX5_keepImage 19 = .ok (.invokevirtual 31, 3) := by decide +kernel
theorem dX5_keepImage_22 : decode cX5_keepImage 22 = .ok (.aload_n 0, 1) := by decide +kernel
theorem dX5_keepImage_23 : decode cX5_keepImage 23 = .ok (.dup, 1) := by decide +kernel
theorem dX5_keepImage_24 : decode cX5_keepImage 24 = .ok (.getfield 24, 3) := by decide +kernel
theorem dX5_keepImage_27 : decode cX5_keepImage 27 = .ok (.iconst 1, 1) := by decide +kernel
theorem dX5_keepImage_28 : decode cX5_keepImage 28 = .ok (.iadd, 1) := by decide +kernel
theorem dX5_keepImage_29 : decode cX5_keepImage 29 = .ok (.putfield 24, 3) := by decide +kernel
theorem dX5_keepImage_32 : decode cX5_keepImage 32 = .ok (.aload_n 0, 1) := by decide +kernel
theorem dX5_keepImage_33 : decode cX5_keepImage 33 = .ok (.getfield 24, 3) := by decide +kernel
theorem dX5_keepImage_36 : decode cX5_keepImage 36 = .ok (.iconst 1, 1) := by decide +kernel
theorem dX5_keepImage_37 : decode cX5_keepImage 37 = .ok (.isub, 1) := by decide +kernel
theorem dX5_keepImage_38 : decode cX5_keepImage 38 = .ok (.ireturn, 1) := by decide +kernel
theorem dX5_goBack_0 : decode cX5_goBack 0 = .ok (.iload_n 1, 1) := by decide +kernel
theorem dX5_goBack_1 : decode cX5_goBack 1 = .ok (.ifCond .lt 26, 3) := by decide +kernel
theorem dX5_goBack_4 : decode cX5_goBack 4 = .ok (.iload_n 1, 1) := by decide +kernel
theorem dX5_goBack_5 : decode cX5_goBack 5 = .ok (.aload_n 0, 1) := by decide +kernel
theorem dX5_goBack_6 : decode cX5_goBack 6 = .ok (.getfield 24, 3) := by decide +kernel
theorem dX5_goBack_9 : decode cX5_goBack 9 = .ok (.if_icmp .ge 18, 3) := by decide +kernel
theorem dX5_goBack_12 : decode cX5_goBack 12 = .ok (.aload_n 2, 1) := by decide +kernel
theorem dX5_goBack_13 : decode cX5_goBack 13 = .ok (.aload_n 0, 1) := by decide +kernel
theorem dX5_goBack_14 : decode cX5_goBack 14 = .ok (.getfield 17, 3) := by decide +kernel
theorem dX5_goBack_17 : decode cX5_goBack 17 = .ok (.iload_n 1, 1) := by decide +kernel
theorem dX5_goBack_18 : decode cX5_goBack 18 = .ok (.aaload, 1) := by decide +kernel
theorem dX5_goBack_19 : decode cX5_goBack 19 = .ok (.invokevirtual 31, 3) := by decide +kernel
theorem dX5_goBack_22 : decode cX5_goBack 22 = .ok (.aload_n 0, 1) := by decide +kernel
theorem dX5_goBack_23 : decode cX5_goBack 23 = .ok (.iconst 0, 1) := by decide +kernel
theorem dX5_goBack_24 : decode cX5_goBack 24 = .ok (.putfield 20, 3) := by decide +kernel
theorem dX5_goBack_27 : decode cX5_goBack 27 = .ok (.return_, 1) := by decide +kernel
theorem dX6_init_0 : decode cX6_init 0 = .ok (.aload_n 0, 1) := by decide +kernel
theorem dX6_init_1 : decode cX6_init 1 = .ok (.invokespecial 3, 3) := by decide +kernel
theorem dX6_init_4 : decode cX6_init 4 = .ok (.aload_n 0, 1) := by decide +kernel
theorem dX6_init_5 : decode cX6_init 5 = .ok (.iconst 5, 1) := by decide +kernel
theorem dX6_init_6 : decode cX6_init 6 = .ok (.newarray .int, 2) := by decide +kernel
theorem dX6_init_8 : decode cX6_init 8 = .ok (.putfield 9, 3) := by decide +kernel
theorem dX6_init_11 : decode cX6_init 11 = .ok (.aload_n 0, 1) := by decide +kernel
theorem dX6_init_12 : decode cX6_init 12 = .ok (.iconst 5, 1) := by decide +kernel
theorem dX6_init_13 : decode cX6_init 13 = .ok (.newarray .int, 2) := by decide +kernel
theorem dX6_init_15 : decode cX6_init 15 = .ok (.putfield 15, 3) := by decide +kernel
theorem dX6_init_18 : decode cX6_init 18 = .ok (.aload_n 0, 1) := by decide +kernel
theorem dX6_init_19 : decode cX6_init 19 = .ok (.iconst 5, 1) := by decide +kernel
theorem dX6_init_20 : decode cX6_init 20 = .ok (.getstatic 18, 3) := by decide +kernel
theorem dX6_init_23 : decode cX6_init 23 = .ok (.iconst 0, 1) := by decide +kernel
theorem dX6_init_24 : decode cX6_init 24 = .ok (.iaload, 1) := by decide +kernel
theorem dX6_init_25 : decode cX6_init 25 = .ok (.multianewarray 21 2, 4) := by decide +kernel
theorem dX6_init_29 : decode cX6_init 29 = .ok (.putfield 23, 3) := by decide +kernel
theorem dX6_init_32 : decode cX6_init 32 = .ok (.aload_n 0, 1) := by decide +kernel
theorem dX6_init_33 : decode cX6_init 33 = .ok (.iconst 5, 1) := by decide +kernel
theorem dX6_init_34 : decode cX6_init 34 = .ok (.newarray .int, 2) := by decide +kernel
theorem dX6_init_36 : decode cX6_init 36 = .ok (.putfield 26, 3) := by decide +kernel
theorem dX6_init_39 : decode cX6_init 39 = .ok (.return_, 1) := by decide +kernel
theorem dX6_seek_0 : decode cX6_seek 0 = .ok (.aload_n 0, 1) := by decide +kernel
theorem dX6_seek_1 : decode cX6_seek 1 = .ok (.iload_n 3, 1) := by decide +kernel
theorem dX6_seek_2 : decode cX6_seek 2 = .ok (.iconst 5, 1) := by decide +kernel
theorem dX6_seek_3 : decode cX6_seek 3 = .ok (.invokestatic 29, 3) := by decide +kernel
theorem dX6_seek_6 : decode cX6_seek 6 = .ok (.putfield 35, 3) := by decide +kernel
theorem dX6_seek_9 : decode cX6_seek 9 = .ok (.aload_n 0, 1) := by decide +kernel
theorem dX6_seek_10 : decode cX6_seek 10 = .ok (.iconst (-1), 1) := by decide +kernel
theorem dX6_seek_11 : decode cX6_seek 11 = .ok (.putfield 39, 3) := by decide +kernel
theorem dX6_seek_14 : decode cX6_seek 14 = .ok (.iconst 0, 1) := by decide +kernel
theorem dX6_seek_15 : decode cX6_seek 15 = .ok (.istore 4, 2) := by decide +kernel
theorem dX6_seek_17 : decode cX6_seek 17 = .ok (.iload 4, 2) := by decide +kernel
theorem dX6_seek_19 : decode cX6_seek 19 = .ok (.aload_n 0, 1) := by decide +kernel
theorem dX6_seek_20 : decode cX6_seek 20 = .ok (.getfield 35, 3) := by decide +kernel
theorem dX6_seek_23 : decode cX6_seek 23 = .ok (.if_icmp .ge 89, 3) := by decide +kernel
theorem dX6_seek_26 : decode cX6_seek 26 = .ok (.aload_n 0, 1) := by decide +kernel
theorem dX6_seek_27 : decode cX6_seek 27 = .ok (.getfield 26, 3) := by decide +kernel
theorem dX6_seek_30 : decode cX6_seek 30 = .ok (.iload 4, 2) := by decide +kernel
theorem dX6_seek_32 : decode cX6_seek 32 = .ok (.iconst 0, 1) := by decide +kernel
theorem dX6_seek_33 : decode cX6_seek 33 = .ok (.iastore, 1) := by decide +kernel
theorem dX6_seek_34 : decode cX6_seek 34 = .ok (.iconst 0, 1) := by decide +kernel
theorem dX6_seek_35 : decode cX6_seek 35 = .ok (.istore 5, 2) := by decide +kernel
theorem dX6_seek_37 : decode cX6_seek 37 = .ok (.iload 5, 2) := by decide +kernel
theorem dX6_seek_39 : decode cX6_seek 39 = .ok (.aload_n 1, 1) := by decide +kernel
theorem dX6_seek_40 : decode cX6_seek 40 = .ok (.getfield 42, 3) := by decide +kernel
theorem dX6_seek_43 : decode cX6_seek 43 = .ok (.iconst 0, 1) := by decide +kernel
theorem dX6_seek_44 : decode cX6_seek 44 = .ok (.iaload, 1) := by decide +kernel
theorem dX6_seek_45 : decode cX6_seek 45 = .ok (.if_icmp .ge 61, 3) := by decide +kernel
theorem dX6_seek_48 : decode cX6_seek 48 = .ok (.aload_n 0, 1) := by decide +kernel
theorem dX6_seek_49 : decode cX6_seek 49 = .ok (.getfield 23, 3) := by decide +kernel
theorem dX6_seek_52 : decode cX6_seek 52 = .ok (.iload 4, 2) := by decide +kernel
theorem dX6_seek_54 : decode cX6_seek 54 = .ok (.aaload, 1) := by decide +kernel
theorem dX6_seek_55 : decode cX6_seek 55 = .ok (.iload 5, 2) := by decide +kernel
theorem dX6_seek_57 : decode cX6_seek 57 = .ok (.aload_n 1, 1) := by decide +kernel
theorem dX6_seek_58 : decode cX6_seek 58 = .ok (.iload 5, 2) := by decide +kernel
theorem dX6_seek_60 : decode cX6_seek 60 = .ok (.aload_n 2, 1) := by decide +kernel
theorem dX6_seek_61 : decode cX6_seek 61 = .ok (.getfield 47, 3) := by decide +kernel
theorem dX6_seek_64 : decode cX6_seek 64 = .ok (.iconst 1, 1) := by decide +kernel
theorem dX6_seek_65 : decode cX6_seek 65 = .ok (.iadd, 1) := by decide +kernel
theorem dX6_seek_66 : decode cX6_seek 66 = .ok (.iload 4, 2) := by decide +kernel
theorem dX6_seek_68 : decode cX6_seek 68 = .ok (.iadd, 1) := by decide +kernel
theorem dX6_seek_69 : decode cX6_seek 69 = .ok (.invokevirtual 52, 3) := by decide +kernel
theorem dX6_seek_72 : decode cX6_seek 72 = .ok (.aload_n 2, 1) := by decide +kernel
theorem dX6_seek_73 : decode cX6_seek 73 = .ok (.getfield 55, 3) := by decide +kernel
theorem dX6_seek_76 : decode cX6_seek 76 = .ok (.iconst (-1), 1) := by decide +kernel
theorem dX6_seek_77 : decode cX6_seek 77 = .ok (.ixor, 1) := by decide +kernel
theorem dX6_seek_78 : decode cX6_seek 78 = .ok (.iand, 1) := by decide +kernel
theorem dX6_seek_79 : decode cX6_seek 79 = .ok (.iastore, 1) := by decide +kernel
theorem dX6_seek_80 : decode cX6_seek 80 = .ok (.aload_n 0, 1) := by decide +kernel
theorem dX6_seek_81 : decode cX6_seek 81 = .ok (.getfield 26, 3) := by decide +kernel
theorem dX6_seek_84 : decode cX6_seek 84 = .ok (.iload 4, 2) := by decide +kernel
theorem dX6_seek_86 : decode cX6_seek 86 = .ok (.dup2, 1) := by decide +kernel
theorem dX6_seek_87 : decode cX6_seek 87 = .ok (.iaload, 1) := by decide +kernel
theorem dX6_seek_88 : decode cX6_seek 88 = .ok (.aload_n 0, 1) := by decide +kernel
theorem dX6_seek_89 : decode cX6_seek 89 = .ok (.getfield 23, 3) := by decide +kernel
theorem dX6_seek_92 : decode cX6_seek 92 = .ok (.iload 4, 2) := by decide +kernel
theorem dX6_seek_94 : decode cX6_seek 94 = .ok (.aaload, 1) := by decide +kernel
theorem dX6_seek_95 : decode cX6_seek 95 = .ok (.iload 5, 2) := by decide +kernel
theorem dX6_seek_97 : decode cX6_seek 97 = .ok (.iaload, 1) := by decide +kernel
theorem dX6_seek_98 : decode cX6_seek 98 = .ok (.ior, 1) := by decide +kernel
theorem dX6_seek_99 : decode cX6_seek 99 = .ok (.iastore, 1) := by decide +kernel
theorem dX6_seek_100 : decode cX6_seek 100 = .ok (.iinc 5 1, 3) := by decide +kernel
theorem dX6_seek_103 : decode cX6_seek 103 = .ok (.goto (-66), 3) := by decide +kernel
theorem dX6_seek_106 : decode cX6_seek 106 = .ok (.iinc 4 1, 3) := by decide +kernel
theorem dX6_seek_109 : decode cX6_seek 109 = .ok (.goto (-92), 3) := by decide +kernel
theorem dX6_seek_112 : decode cX6_seek 112 = .ok (.aload_n 0, 1) := by decide +kernel
theorem dX6_seek_113 : decode cX6_seek 113 = .ok (.aload_n 1, 1) := by decide +kernel
theorem dX6_seek_114 : decode cX6_seek 114 = .ok (.iconst 0, 1) := by decide +kernel
theorem dX6_seek_115 : decode cX6_seek 115 = .ok (.aload_n 2, 1) := by decide +kernel
theorem dX6_seek_116 : decode cX6_seek 116 = .ok (.getfield 58, 3) := by decide +kernel
theorem dX6_seek_119 : decode cX6_seek 119 = .ok (.iconst 0, 1) := by decide +kernel
theorem dX6_seek_120 : decode cX6_seek 120 = .ok (.invokevirtual 61, 3) := by decide +kernel
theorem dX6_seek_123 : decode cX6_seek 123 = .ok (.return_, 1) := by decide +kernel
theorem dX6_extend_0 : decode cX6_extend 0 = .ok (.iload_n 2, 1) := by decide +kernel
theorem dX6_extend_1 : decode cX6_extend 1 = .ok (.aload_n 0, 1) := by decide +kernel
theorem dX6_extend_2 : decode cX6_extend 2 = .ok (.getfield 35, 3) := by decide +kernel
theorem dX6_extend_5 : decode cX6_extend 5 = .ok (.if_icmp .lt 13, 3) := by decide +kernel
theorem dX6_extend_8 : decode cX6_extend 8 = .ok (.aload_n 0, 1) := by decide +kernel
theorem dX6_extend_9 : decode cX6_extend 9 = .ok (.iload 4, 2) := by decide +kernel
theorem dX6_extend_11 : decode cX6_extend 11 = .ok (.invokestatic 65, 3) := by decide +kernel
theorem dX6_extend_14 : decode cX6_extend 14 = .ok (.invokevirtual 71, 3) := by decide +kernel
theorem dX6_extend_17 : decode cX6_extend 17 = .ok (.return_, 1) := by decide +kernel
theorem dX6_extend_18 : decode cX6_extend 18 = .ok (.iload 4, 2) := by decide +kernel
theorem dX6_extend_20 : decode cX6_extend 20 = .ok (.aload_n 0, 1) := by decide +kernel
theorem dX6_extend_21 : decode cX6_extend 21 = .ok (.getfield 26, 3) := by decide +kernel
theorem dX6_extend_24 : decode cX6_extend 24 = .ok (.iload_n 2, 1) := by decide +kernel
theorem dX6_extend_25 : decode cX6_extend 25 = .ok (.iaload, 1) := by decide +kernel
theorem dX6_extend_26 : decode cX6_extend 26 = .ok (.ior, 1) := by decide +kernel
theorem dX6_extend_27 : decode cX6_extend 27 = .ok (.invokestatic 65, 3) := by decide +kernel
theorem dX6_extend_30 : decode cX6_extend 30 = .ok (.aload_n 0, 1) := by decide +kernel
theorem dX6_extend_31 : decode cX6_extend 31 = .ok (.getfield 39, 3) := by decide +kernel
theorem dX6_extend_34 : decode cX6_extend 34 = .ok (.if_icmp .gt 4, 3) := by decide +kernel
theorem dX6_extend_37 : decode cX6_extend 37 = .ok (.return_, 1) := by decide +kernel
theorem dX6_extend_38 : decode cX6_extend 38 = .ok (.iconst 0, 1) := by decide +kernel
theorem dX6_extend_39 : decode cX6_extend 39 = .ok (.istore 5, 2) := by decide +kernel
theorem dX6_extend_41 : decode cX6_extend 41 = .ok (.iload 5, 2) := by decide +kernel
theorem dX6_extend_43 : decode cX6_extend 43 = .ok (.aload_n 1, 1) := by decide +kernel
theorem dX6_extend_44 : decode cX6_extend 44 = .ok (.getfield 42, 3) := by decide +kernel
theorem dX6_extend_47 : decode cX6_extend 47 = .ok (.iconst 0, 1) := by decide +kernel
theorem dX6_extend_48 : decode cX6_extend 48 = .ok (.iaload, 1) := by decide +kernel
theorem dX6_extend_49 : decode cX6_extend 49 = .ok (.if_icmp .ge 49, 3) := by decide +kernel
theorem dX6_extend_52 : decode cX6_extend 52 = .ok (.aload_n 1, 1) := by decide +kernel
theorem dX6_extend_53 : decode cX6_extend 53 = .ok (.iload_n 3, 1) := by decide +kernel
theorem dX6_extend_54 : decode cX6_extend 54 = .ok (.iload 5, 2) := by decide +kernel
theorem dX6_extend_56 : decode cX6_extend 56 = .ok (.invokevirtual 75, 3) := by decide +kernel
theorem dX6_extend_59 : decode cX6_extend 59 = .ok (.ifCond .eq 33, 3) := by decide +kernel
theorem dX6_extend_62 : decode cX6_extend 62 = .ok (.aload_n 0, 1) := by decide +kernel
theorem dX6_extend_63 : decode cX6_extend 63 = .ok (.getfield 15, 3) := by decide +kernel
theorem dX6_extend_66 : decode cX6_extend 66 = .ok (.iload_n 2, 1) := by decide +kernel
theorem dX6_extend_67 : decode cX6_extend 67 = .ok (.iload 5, 2) := by decide +kernel
theorem dX6_extend_69 : decode cX6_extend 69 = .ok (.iastore, 1) := by decide +kernel
theorem dX6_extend_70 : decode cX6_extend 70 = .ok (.aload_n 0, 1) := by decide +kernel
theorem dX6_extend_71 : decode cX6_extend 71 = .ok (.aload_n 1, 1) := by decide +kernel
theorem dX6_extend_72 : decode cX6_extend 72 = .ok (.iload_n 2, 1) := by decide +kernel
theorem dX6_extend_73 : decode cX6_extend 73 = .ok (.iconst 1, 1) := by decide +kernel
theorem dX6_extend_74 : decode cX6_extend 74 = .ok (.iadd, 1) := by decide +kernel
theorem dX6_extend_75 : decode cX6_extend 75 = .ok (.iload 5, 2) := by decide +kernel
theorem dX6_extend_77 : decode cX6_extend 77 = .ok (.iload 4, 2) := by decide +kernel
theorem dX6_extend_79 : decode cX6_extend 79 = .ok (.aload_n 0, 1) := by decide +kernel
theorem dX6_extend_80 : decode cX6_extend 80 = .ok (.getfield 23, 3) := by decide +kernel
theorem dX6_extend_83 : decode cX6_extend 83 = .ok (.iload_n 2, 1) := by decide +kernel
theorem dX6_extend_84 : decode cX6_extend 84 = .ok (.aaload, 1) := by decide +kernel
theorem dX6_extend_85 : decode cX6_extend 85 = .ok (.iload 5, 2) := by decide +kernel
theorem dX6_extend_87 : decode cX6_extend 87 = .ok (.iaload, 1) := by decide +kernel
theorem dX6_extend_88 : decode cX6_extend 88 = .ok (.ior, 1) := by decide +kernel
theorem dX6_extend_89 : decode cX6_extend 89 = .ok (.invokevirtual 61, 3) := by decide +kernel
theorem dX6_extend_92 : decode cX6_extend 92 = .ok (.iinc 5 1, 3) := by decide +kernel
theorem dX6_extend_95 : decode cX6_extend 95 = .ok (.goto (-54), 3) := by decide +kernel
theorem dX6_extend_98 : decode cX6_extend 98 = .ok (.return_, 1) := by decide +kernel
theorem dX6_settle_0 : decode cX6_settle 0 = .ok (.iload_n 1, 1) := by decide +kernel
theorem dX6_settle_1 : decode cX6_settle 1 = .ok (.aload_n 0, 1) := by decide +kernel
theorem dX6_settle_2 : decode cX6_settle 2 = .ok (.getfield 39, 3) := by decide +kernel
theorem dX6_settle_5 : decode cX6_settle 5 = .ok (.if_icmp .le 36, 3) := by decide +kernel
theorem dX6_settle_8 : decode cX6_settle 8 = .ok (.aload_n 0, 1) := by decide +kernel
theorem dX6_settle_9 : decode cX6_settle 9 = .ok (.iload_n 1, 1) := by decide +kernel
theorem dX6_settle_10 : decode cX6_settle 10 = .ok (.putfield 39, 3) := by decide +kernel
theorem dX6_settle_13 : decode cX6_settle 13 = .ok (.iconst 0, 1) := by decide +kernel
theorem dX6_settle_14 : decode cX6_settle 14 = .ok (.istore_n 2, 1) := by decide +kernel
theorem dX6_settle_15 : decode cX6_settle 15 = .ok (.iload_n 2, 1) := by decide +kernel
theorem dX6_settle_16 : decode cX6_settle 16 = .ok (.aload_n 0, 1) := by decide +kernel
theorem dX6_settle_17 : decode cX6_settle 17 = .ok (.getfield 35, 3) := by decide +kernel
theorem dX6_settle_20 : decode cX6_settle 20 = .ok (.if_icmp .ge 21, 3) := by decide +kernel
theorem dX6_settle_23 : decode cX6_settle 23 = .ok (.aload_n 0, 1) := by decide +kernel
theorem dX6_settle_24 : decode cX6_settle 24 = .ok (.getfield 9, 3) := by decide +kernel
theorem dX6_settle_27 : decode cX6_settle 27 = .ok (.iload_n 2, 1) := by decide +kernel
theorem dX6_settle_28 : decode cX6_settle 28 = .ok (.aload_n 0, 1) := by decide +kernel
theorem dX6_settle_29 : decode cX6_settle 29 = .ok (.getfield 15, 3) := by decide +kernel
theorem dX6_settle_32 : decode cX6_settle 32 = .ok (.iload_n 2, 1) := by decide +kernel
theorem dX6_settle_33 : decode cX6_settle 33 = .ok (.iaload, 1) := by decide +kernel
theorem dX6_settle_34 : decode cX6_settle 34 = .ok (.iastore, 1) := by decide +kernel
theorem dX6_settle_35 : decode cX6_settle 35 = .ok (.iinc 2 1, 3) := by decide +kernel
theorem dX6_settle_38 : decode cX6_settle 38 = .ok (.goto (-23), 3) := by decide +kernel
theorem dX6_settle_41 : decode cX6_settle 41 = .ok (.return_, 1) := by decide +kernel
theorem dX7_init_0 : decode cX7_init 0 = .ok (.aload_n 0, 1) := by decide +kernel
theorem dX7_init_1 : decode cX7_init 1 = .ok (.invokespecial 3, 3) := by decide +kernel
theorem dX7_init_4 : decode cX7_init 4 = .ok (.aload_n 0, 1) := by decide +kernel
theorem dX7_init_5 : decode cX7_init 5 = .ok (.new 9, 3) := by decide +kernel
theorem dX7_init_8 : decode cX7_init 8 = .ok (.dup, 1) := by decide +kernel
theorem dX7_init_9 : decode cX7_init 9 = .ok (.invokespecial 11, 3) := by decide +kernel
theorem dX7_init_12 : decode cX7_init 12 = .ok (.putfield 12, 3) := by decide +kernel
theorem dX7_init_15 : decode cX7_init 15 = .ok (.aload_n 0, 1) := by decide +kernel
theorem dX7_init_16 : decode cX7_init 16 = .ok (.bipush 25, 2) := by decide +kernel
theorem dX7_init_18 : decode cX7_init 18 = .ok (.newarray .long, 2) := by decide +kernel
theorem dX7_init_20 : decode cX7_init 20 = .ok (.putfield 18, 3) := by decide +kernel
theorem dX7_init_23 : decode cX7_init 23 = .ok (.aload_n 0, 1) := by decide +kernel
theorem dX7_init_24 : decode cX7_init 24 = .ok (.bipush 19, 2) := by decide +kernel
theorem dX7_init_26 : decode cX7_init 26 = .ok (.newarray .long, 2) := by decide +kernel
theorem dX7_init_28 : decode cX7_init 28 = .ok (.putfield 22, 3) := by decide +kernel
theorem dX7_init_31 : decode cX7_init 31 = .ok (.aload_n 0, 1) := by decide +kernel
theorem dX7_init_32 : decode cX7_init 32 = .ok (.bipush 19, 2) := by decide +kernel
theorem dX7_init_34 : decode cX7_init 34 = .ok (.newarray .int, 2) := by decide +kernel
theorem dX7_init_36 : decode cX7_init 36 = .ok (.putfield 25, 3) := by decide +kernel
theorem dX7_init_39 : decode cX7_init 39 = .ok (.aload_n 0, 1) := by decide +kernel
theorem dX7_init_40 : decode cX7_init 40 = .ok (.bipush 19, 2) := by decide +kernel
theorem dX7_init_42 : decode cX7_init 42 = .ok (.newarray .int, 2) := by decide +kernel
theorem dX7_init_44 : decode cX7_init 44 = .ok (.putfield 29, 3) := by decide +kernel
theorem dX7_init_47 : decode cX7_init 47 = .ok (.aload_n 0, 1) := by decide +kernel
theorem dX7_init_48 : decode cX7_init 48 = .ok (.aload_n 1, 1) := by decide +kernel
theorem dX7_init_49 : decode cX7_init 49 = .ok (.putfield 32, 3) := by decide +kernel
theorem dX7_init_52 : decode cX7_init 52 = .ok (.iconst 0, 1) := by decide +kernel
theorem dX7_init_53 : decode cX7_init 53 = .ok (.istore_n 2, 1) := by decide +kernel
theorem dX7_init_54 : decode cX7_init 54 = .ok (.lconst 0, 1) := by decide +kernel
theorem dX7_init_55 : decode cX7_init 55 = .ok (.lstore_n 3, 1) := by decide +kernel
theorem dX7_init_56 : decode cX7_init 56 = .ok (.iconst 0, 1) := by decide +kernel
theorem dX7_init_57 : decode cX7_init 57 = .ok (.istore 5, 2) := by decide +kernel
theorem dX7_init_59 : decode cX7_init 59 = .ok (.iload 5, 2) := by decide +kernel
theorem dX7_init_61 : decode cX7_init 61 = .ok (.ldc 36, 2) := by decide +kernel
theorem dX7_init_63 : decode cX7_init 63 = .ok (.invokevirtual 38, 3) := by decide +kernel
theorem dX7_init_66 : decode cX7_init 66 = .ok (.if_icmp .ge 54, 3) := by decide +kernel
theorem dX7_init_69 : decode cX7_init 69 = .ok (.iload_n 2, 1) := by decide +kernel
theorem dX7_init_70 : decode cX7_init 70 = .ok (.bipush 25, 2) := by decide +kernel
theorem dX7_init_72 : decode cX7_init 72 = .ok (.if_icmp .ge 48, 3) := by decide +kernel
theorem dX7_init_75 : decode cX7_init 75 = .ok (.ldc 36, 2) := by decide +kernel
theorem dX7_init_77 : decode cX7_init 77 = .ok (.iload 5, 2) := by decide +kernel
theorem dX7_init_79 : decode cX7_init 79 = .ok (.invokevirtual 44, 3) := by decide +kernel
theorem dX7_init_82 : decode cX7_init 82 = .ok (.bipush 32, 2) := by decide +kernel
theorem dX7_init_84 : decode cX7_init 84 = .ok (.if_icmp .ne 18, 3) := by decide +kernel
theorem dX7_init_87 : decode cX7_init 87 = .ok (.aload_n 0, 1) := by decide +kernel
theorem dX7_init_88 : decode cX7_init 88 = .ok (.getfield 18, 3) := by decide +kernel
theorem dX7_init_91 : decode cX7_init 91 = .ok (.iload_n 2, 1) := by decide +kernel
theorem dX7_init_92 : decode cX7_init 92 = .ok (.lload_n 3, 1) := by decide +kernel
theorem dX7_init_93 : decode cX7_init 93 = .ok (.lastore, 1) := by decide +kernel
theorem dX7_init_94 : decode cX7_init 94 = .ok (.lconst 0, 1) := by decide +kernel
theorem dX7_init_95 : decode cX7_init 95 = .ok (.lstore_n 3, 1) := by decide +kernel
theorem dX7_init_96 : decode cX7_init 96 = .ok (.iinc 2 1, 3) := by decide +kernel
theorem dX7_init_99 : decode cX7_init 99 = .ok (.goto 15, 3) := by decide +kernel
theorem dX7_init_102 : decode cX7_init 102 = .ok (.lload_n 3, 1) := by decide +kernel
theorem dX7_init_103 : decode cX7_init 103 = .ok (.ldc 36, 2) := by decide +kernel
theorem dX7_init_105 : decode cX7_init 105 = .ok (.iload 5, 2) := by decide +kernel
theorem dX7_init_107 : decode cX7_init 107 = .ok (.invokevirtual 44, 3) := by decide +kernel
theorem dX7_init_110 : decode cX7_init 110 = .ok (.invokestatic 48, 3) := by decide +kernel
theorem dX7_init_113 : decode cX7_init 113 = .ok (.lstore_n 3, 1) := by decide +kernel
theorem dX7_init_114 : decode cX7_init 114 = .ok (.iinc 5 1, 3) := by decide +kernel
theorem dX7_init_117 : decode cX7_init 117 = .ok (.goto (-58), 3) := by decide +kernel
theorem dX7_init_120 : decode cX7_init 120 = .ok (.return_, 1) := by decide +kernel
theorem dX7_read_0 : decode cX7_read 0 = .ok (.aload_n 0, 1) := by decide +kernel
theorem dX7_read_1 : decode cX7_read 1 = .ok (.iconst 0, 1) := by decide +kernel
theorem dX7_read_2 : decode cX7_read 2 = .ok (.iload_n 1, 1) := by decide +kernel
theorem dX7_read_3 : decode cX7_read 3 = .ok (.aload_n 0, 1) := by decide +kernel
theorem dX7_read_4 : decode cX7_read 4 = .ok (.getfield 32, 3) := by decide +kernel
theorem dX7_read_7 : decode cX7_read 7 = .ok (.arraylength, 1) := by decide +kernel
theorem dX7_read_8 : decode cX7_read 8 = .ok (.invokestatic 52, 3) := by decide +kernel
theorem dX7_read_11 : decode cX7_read 11 = .ok (.invokestatic 58, 3) := by decide +kernel
theorem dX7_read_14 : decode cX7_read 14 = .ok (.putfield 61, 3) := by decide +kernel
theorem dX7_read_17 : decode cX7_read 17 = .ok (.aload_n 0, 1) := by decide +kernel
theorem dX7_read_18 : decode cX7_read 18 = .ok (.iconst 0, 1) := by decide +kernel
theorem dX7_read_19 : decode cX7_read 19 = .ok (.putfield 65, 3) := by decide +kernel
theorem dX7_read_22 : decode cX7_read 22 = .ok (.aload_n 0, 1) := by decide +kernel
theorem dX7_read_23 : decode cX7_read 23 = .ok (.iconst 0, 1) := by decide +kernel
theorem dX7_read_24 : decode cX7_read 24 = .ok (.putfield 68, 3) := by decide +kernel
theorem dX7_read_27 : decode cX7_read 27 = .ok (.aload_n 0, 1) := by decide +kernel
theorem dX7_read_28 : decode cX7_read 28 = .ok (.iconst 0, 1) := by decide +kernel
theorem dX7_read_29 : decode cX7_read 29 = .ok (.putfield 71, 3) := by decide +kernel
theorem dX7_read_32 : decode cX7_read 32 = .ok (.aload_n 0, 1) := by decide +kernel
theorem dX7_read_33 : decode cX7_read 33 = .ok (.getfield 12, 3) := by decide +kernel
theorem dX7_read_36 : decode cX7_read 36 = .ok (.invokevirtual 74, 3) := by decide +kernel
theorem dX7_read_39 : decode cX7_read 39 = .ok (.aload_n 0, 1) := by decide +kernel
theorem dX7_read_40 : decode cX7_read 40 = .ok (.invokevirtual 77, 3) := by decide +kernel
theorem dX7_read_43 : decode cX7_read 43 = .ok (.iconst 0, 1) := by decide +kernel
theorem dX7_read_44 : decode cX7_read 44 = .ok (.istore_n 2, 1) := by decide +kernel
theorem dX7_read_45 : decode cX7_read 45 = .ok (.iload_n 2, 1) := by decide +kernel
theorem dX7_read_46 : decode cX7_read 46 = .ok (.sipush 900, 3) := by decide +kernel
theorem dX7_read_49 : decode cX7_read 49 = .ok (.if_icmp .gt 64, 3) := by decide +kernel
theorem dX7_read_52 : decode cX7_read 52 = .ok (.aload_n 0, 1) := by decide +kernel
theorem dX7_read_53 : decode cX7_read 53 = .ok (.getfield 80, 3) := by decide +kernel
theorem dX7_read_56 : decode cX7_read 56 = .ok (.istore_n 3, 1) := by decide +kernel
theorem dX7_read_57 : decode cX7_read 57 = .ok (.aload_n 0, 1) := by decide +kernel
theorem dX7_read_58 : decode cX7_read 58 = .ok (.invokevirtual 83, 3) := by decide +kernel
theorem dX7_read_61 : decode cX7_read 61 = .ok (.ifCond .ne 8, 3) := by decide +kernel
theorem dX7_read_64 : decode cX7_read 64 = .ok (.aload_n 0, 1) := by decide +kernel
theorem dX7_read_65 : decode cX7_read 65 = .ok (.getfield 71, 3) := by decide +kernel
theorem dX7_read_68 : decode cX7_read 68 = .ok (.ireturn, 1) := by decide +kernel
theorem dX7_read_69 : decode cX7_read 69 = .ok (.iload_n 3, 1) := by decide +kernel
theorem dX7_read_70 : decode cX7_read 70 = .ok (.ifCond .lt 22, 3) := by decide +kernel
theorem dX7_read_73 : decode cX7_read 73 = .ok (.iload_n 3, 1) := by decide +kernel
theorem dX7_read_74 : decode cX7_read 74 = .ok (.bipush 7, 2) := by decide +kernel
theorem dX7_read_76 : decode cX7_read 76 = .ok (.if_icmp .ge 16, 3) := by decide +kernel
theorem dX7_read_79 : decode cX7_read 79 = .ok (.aload_n 0, 1) := by decide +kernel
theorem dX7_read_80 : decode cX7_read 80 = .ok (.getfield 12, 3) := by decide +kernel
theorem dX7_read_83 : decode cX7_read 83 = .ok (.getfield 87, 3) := by decide +kernel
theorem dX7_read_86 : decode cX7_read 86 = .ok (.iload_n 3, 1) := by decide +kernel
theorem dX7_read_87 : decode cX7_read 87 = .ok (.dup2, 1) := by decide +kernel
theorem dX7_read_88 : decode cX7_read 88 = .ok (.iaload, 1) := by decide +kernel
theorem dX7_read_89 : decode cX7_read 89 = .ok (.iconst 1, 1) := by decide +kernel
theorem dX7_read_90 : decode cX7_read 90 = .ok (.iadd, 1) := by decide +kernel
theorem dX7_read_91 : decode cX7_read 91 = .ok (.iastore, 1) := by decide +kernel
theorem dX7_read_92 : decode cX7_read 92 = .ok (.aload_n 0, 1) := by decide +kernel
theorem dX7_read_93 : decode cX7_read 93 = .ok (.getfield 90, 3) := by decide +kernel
theorem dX7_read_96 : decode cX7_read 96 = .ok (.iconst 3, 1) := by decide +kernel
theorem dX7_read_97 : decode cX7_read 97 = .ok (.if_icmp .eq 6, 3) := by decide +kernel
theorem dX7_read_100 : decode cX7_read 100 = .ok (.goto 13, 3) := by decide +kernel
theorem dX7_read_103 : decode cX7_read 103 = .ok (.aload_n 0, 1) := by decide +kernel
theorem dX7_read_104 : decode cX7_read 104 = .ok (.invokevirtual 77, 3) := by decide +kernel
theorem dX7_read_107 : decode cX7_read 107 = .ok (.iinc 2 1, 3) := by decide +kernel
theorem dX7_read_110 : decode cX7_read 110 = .ok (.goto (-65), 3) := by decide +kernel
theorem dX7_read_113 : decode cX7_read 113 = .ok (.aload_n 0, 1) := by decide +kernel
theorem dX7_read_114 : decode cX7_read 114 = .ok (.getfield 90, 3) := by decide +kernel
theorem dX7_read_117 : decode cX7_read 117 = .ok (.ifCond .eq 5, 3) := by decide +kernel
theorem dX7_read_120 : decode cX7_read 120 = .ok (.iconst 1, 1) := by decide +kernel
theorem dX7_read_121 : decode cX7_read 121 = .ok (.ireturn, 1) := by decide +kernel
theorem dX7_read_122 : decode cX7_read 122 = .ok (.aload_n 0, 1) := by decide +kernel
theorem dX7_read_123 : decode cX7_read 123 = .ok (.getfield 12, 3) := by decide +kernel
theorem dX7_read_126 : decode cX7_read 126 = .ok (.invokevirtual 93, 3) := by decide +kernel
theorem dX7_read_129 : decode cX7_read 129 = .ok (.ifCond .eq 7, 3) := by decide +kernel
theorem dX7_read_132 : decode cX7_read 132 = .ok (.iconst 0, 1) := by decide +kernel
theorem dX7_read_133 : decode cX7_read 133 = .ok (.goto 5, 3) := by decide +kernel
theorem dX7_read_136 : decode cX7_read 136 = .ok (.bipush 6, 2) := by decide +kernel
theorem dX7_read_138 : decode cX7_read 138 = .ok (.ireturn, 1) := by decide +kernel
theorem dX7_readLine_0 : decode cX7_readLine 0 = .ok (.aload_n 0, 1) := by decide +kernel
theorem dX7_readLine_1 : decode cX7_readLine 1 = .ok (.getfield 80, 3) := by decide +kernel
theorem dX7_readLine_4 : decode cX7_readLine 4 = .ok (.istore_n 1, 1) := by decide +kernel
theorem dX7_readLine_5 : decode cX7_readLine 5 = .ok (.iload_n 1, 1) := by decide +kernel
theorem dX7_readLine_6 : decode cX7_readLine 6 = .ok (.ifCond .lt 9, 3) := by decide +kernel
theorem dX7_readLine_9 : decode cX7_readLine 9 = .ok (.iload_n 1, 1) := by decide +kernel
theorem dX7_readLine_10 : decode cX7_readLine 10 = .ok (.bipush 7, 2) := by decide +kernel
theorem dX7_readLine_12 : decode cX7_readLine 12 = .ok (.if_icmp .le 9, 3) := by decide +kernel
theorem dX7_readLine_15 : decode cX7_readLine 15 = .ok (.aload_n 0, 1) := by decide +kernel
theorem dX7_readLine_16 : decode cX7_readLine 16 = .ok (.iconst 1, 1) := by decide +kernel
theorem dX7_readLine_17 : decode cX7_readLine 17 = .ok (.invokevirtual 96, 3) := by decide +kernel
theorem dX7_readLine_20 : decode cX7_readLine 20 = .ok (.ireturn, 1) := by decide +kernel
theorem dX7_readLine_21 : decode cX7_readLine 21 = .ok (.iload_n 1, 1) := by decide +kernel
theorem dX7_readLine_22 : decode cX7_readLine 22 = .ok (.bipush 7, 2) := by decide +kernel
theorem dX7_readLine_24 : decode cX7_readLine 24 = .ok (.if_icmp .ne 8, 3) := by decide +kernel
theorem dX7_readLine_27 : decode cX7_readLine 27 = .ok (.aload_n 0, 1) := by decide +kernel
theorem dX7_readLine_28 : decode cX7_readLine 28 = .ok (.invokevirtual 100, 3) := by decide +kernel
theorem dX7_readLine_31 : decode cX7_readLine 31 = .ok (.ireturn, 1) := by decide +kernel
theorem dX7_readLine_32 : decode cX7_readLine 32 = .ok (.aload_n 0, 1) := by decide +kernel
theorem dX7_readLine_33 : decode cX7_readLine 33 = .ok (.getfield 12, 3) := by decide +kernel
theorem dX7_readLine_36 : decode cX7_readLine 36 = .ok (.invokevirtual 103, 3) := by decide +kernel
theorem dX7_readLine_39 : decode cX7_readLine 39 = .ok (.ifCond .ne 10, 3) := by decide +kernel
theorem dX7_readLine_42 : decode cX7_readLine 42 = .ok (.aload_n 0, 1) := by decide +kernel
theorem dX7_readLine_43 : decode cX7_readLine 43 = .ok (.bipush 6, 2) := by decide +kernel
theorem dX7_readLine_45 : decode cX7_readLine 45 = .ok (.invokevirtual 96, 3) := by decide +kernel
theorem dX7_readLine_48 : decode cX7_readLine 48 = .ok (.ireturn, 1) := by decide +kernel
theorem dX7_readLine_49 : decode cX7_readLine 49 = .ok (.aload_n 0, 1) := by decide +kernel
theorem dX7_readLine_50 : decode cX7_readLine 50 = .ok (.getfield 12, 3) := by decide +kernel
theorem dX7_readLine_53 : decode cX7_readLine 53 = .ok (.getfield 87, 3) := by decide +kernel
theorem dX7_readLine_56 : decode cX7_readLine 56 = .ok (.iload_n 1, 1) := by decide +kernel
theorem dX7_readLine_57 : decode cX7_readLine 57 = .ok (.iaload, 1) := by decide +kernel
theorem dX7_readLine_58 : decode cX7_readLine 58 = .ok (.istore_n 2, 1) := by decide +kernel
theorem dX7_readLine_59 : decode cX7_readLine 59 = .ok (.iload_n 2, 1) := by decide +kernel
theorem dX7_readLine_60 : decode cX7_readLine 60 = .ok (.getstatic 106, 3) := by decide +kernel
theorem dX7_readLine_63 : decode cX7_readLine 63 = .ok (.iload_n 1, 1) := by decide +kernel
theorem dX7_readLine_64 : decode cX7_readLine 64 = .ok (.iaload, 1) := by decide +kernel
theorem dX7_readLine_65 : decode cX7_readLine 65 = .ok (.if_icmp .lt 9, 3) := by decide +kernel
theorem dX7_readLine_68 : decode cX7_readLine 68 = .ok (.aload_n 0, 1) := by decide +kernel
theorem dX7_readLine_69 : decode cX7_readLine 69 = .ok (.iconst 5, 1) := by decide +kernel
theorem dX7_readLine_70 : decode cX7_readLine 70 = .ok (.invokevirtual 96, 3) := by decide +kernel
theorem dX7_readLine_73 : decode cX7_readLine 73 = .ok (.ireturn, 1) := by decide +kernel
theorem dX7_readLine_74 : decode cX7_readLine 74 = .ok (.aload_n 0, 1) := by decide +kernel
theorem dX7_readLine_75 : decode cX7_readLine 75 = .ok (.invokevirtual 77, 3) := by decide +kernel
theorem dX7_readLine_78 : decode cX7_readLine 78 = .ok (.iload_n 1, 1) := by decide +kernel
theorem dX7_readLine_79 : decode cX7_readLine 79 = .ok (.tableswitch 72 0 5 #[37, 43, 48, 54, 60, 66], 37) := by decide +kernel
theorem dX7_readLine_116 : decode cX7_readLine 116 = .ok (.aload_n 0, 1) := by decide +kernel
theorem dX7_readLine_117 : decode cX7_readLine 117 = .ok (.iload_n 2, 1) := by decide +kernel
theorem dX7_readLine_118 : decode cX7_readLine 118 = .ok (.invokevirtual 109, 3) := by decide +kernel
theorem dX7_readLine_121 : decode cX7_readLine 121 = .ok (.ireturn, 1) := by decide +kernel
theorem dX7_readLine_122 : decode cX7_readLine 122 = .ok (.aload_n 0, 1) := by decide +kernel
theorem dX7_readLine_123 : decode cX7_readLine 123 = .ok (.invokevirtual 112, 3) := by decide +kernel
theorem dX7_readLine_126 : decode cX7_readLine 126 = .ok (.ireturn, 1) := by decide +kernel
theorem dX7_readLine_127 : decode cX7_readLine 127 = .ok (.aload_n 0, 1) := by decide +kernel
theorem dX7_readLine_128 : decode cX7_readLine 128 = .ok (.iload_n 2, 1) := by decide +kernel
theorem dX7_readLine_129 : decode cX7_readLine 129 = .ok (.invokevirtual 115, 3) := by decide +kernel
theorem dX7_readLine_132 : decode cX7_readLine 132 = .ok (.ireturn, 1) := by decide +kernel
theorem dX7_readLine_133 : decode cX7_readLine 133 = .ok (.aload_n 0, 1) := by decide +kernel
theorem dX7_readLine_134 : decode cX7_readLine 134 = .ok (.iload_n 2, 1) := by decide +kernel
theorem dX7_readLine_135 : decode cX7_readLine 135 = .ok (.invokevirtual 118, 3) := by decide +kernel
theorem dX7_readLine_138 : decode cX7_readLine 138 = .ok (.ireturn, 1) := by decide +kernel
theorem dX7_readLine_139 : decode cX7_readLine 139 = .ok (.aload_n 0, 1) := by decide +kernel
theorem dX7_readLine_140 : decode cX7_readLine 140 = .ok (.iload_n 2, 1) := by decide +kernel
theorem dX7_readLine_141 : decode cX7_readLine 141 = .ok (.invokevirtual 121, 3) := by decide +kernel
theorem dX7_readLine_144 : decode cX7_readLine 144 = .ok (.ireturn, 1) := by decide +kernel
theorem dX7_readLine_145 : decode cX7_readLine 145 = .ok (.aload_n 0, 1) := by decide +kernel
theorem dX7_readLine_146 : decode cX7_readLine 146 = .ok (.iload_n 2, 1) := by decide +kernel
theorem dX7_readLine_147 : decode cX7_readLine 147 = .ok (.invokevirtual 124, 3) := by decide +kernel
theorem dX7_readLine_150 : decode cX7_readLine 150 = .ok (.ireturn, 1) := by decide +kernel
theorem dX7_readLine_151 : decode cX7_readLine 151 = .ok (.aload_n 0, 1) := by decide +kernel
theorem dX7_readLine_152 : decode cX7_readLine 152 = .ok (.iload_n 2, 1) := by decide +kernel
theorem dX7_readLine_153 : decode cX7_readLine 153 = .ok (.invokevirtual 127, 3) := by decide +kernel
theorem dX7_readLine_156 : decode cX7_readLine 156 = .ok (.ireturn, 1) := by decide +kernel
theorem dX7_readOath_0 : decode cX7_readOath 0 = .ok (.aload_n 0, 1) := by decide +kernel
theorem dX7_readOath_1 : decode cX7_readOath 1 = .ok (.getfield 12, 3) := by decide +kernel
theorem dX7_readOath_4 : decode cX7_readOath 4 = .ok (.invokevirtual 103, 3) := by decide +kernel
theorem dX7_readOath_7 : decode cX7_readOath 7 = .ok (.ifCond .eq 9, 3) := by decide +kernel
theorem dX7_readOath_10 : decode cX7_readOath 10 = .ok (.aload_n 0, 1) := by decide +kernel
theorem dX7_readOath_11 : decode cX7_readOath 11 = .ok (.iconst 3, 1) := by decide +kernel
theorem dX7_readOath_12 : decode cX7_readOath 12 = .ok (.invokevirtual 96, 3) := by decide +kernel
theorem dX7_readOath_15 : decode cX7_readOath 15 = .ok (.ireturn, 1) := by decide +kernel
theorem dX7_readOath_16 : decode cX7_readOath 16 = .ok (.aload_n 0, 1) := by decide +kernel
theorem dX7_readOath_17 : decode cX7_readOath 17 = .ok (.invokevirtual 77, 3) := by decide +kernel
theorem dX7_readOath_20 : decode cX7_readOath 20 = .ok (.aload_n 0, 1) := by decide +kernel
theorem dX7_readOath_21 : decode cX7_readOath 21 = .ok (.bipush 12, 2) := by decide +kernel
theorem dX7_readOath_23 : decode cX7_readOath 23 = .ok (.iconst 5, 1) := by decide +kernel
theorem dX7_readOath_24 : decode cX7_readOath 24 = .ok (.bipush 9, 2) := by decide +kernel
theorem dX7_readOath_26 : decode cX7_readOath 26 = .ok (.invokevirtual 130, 3) := by decide +kernel
theorem dX7_readOath_29 : decode cX7_readOath 29 = .ok (.ifCond .ne 5, 3) := by decide +kernel
theorem dX7_readOath_32 : decode cX7_readOath 32 = .ok (.iconst 0, 1) := by decide +kernel
theorem dX7_readOath_33 : decode cX7_readOath 33 = .ok (.ireturn, 1) := by decide +kernel
theorem dX7_readOath_34 : decode cX7_readOath 34 = .ok (.aload_n 0, 1) := by decide +kernel
theorem dX7_readOath_35 : decode cX7_readOath 35 = .ok (.getfield 134, 3) := by decide +kernel
theorem dX7_readOath_38 : decode cX7_readOath 38 = .ok (.istore_n 1, 1) := by decide +kernel
theorem dX7_readOath_39 : decode cX7_readOath 39 = .ok (.aload_n 0, 1) := by decide +kernel
theorem dX7_readOath_40 : decode cX7_readOath 40 = .ok (.bipush 13, 2) := by decide +kernel
theorem dX7_readOath_42 : decode cX7_readOath 42 = .ok (.iconst 1, 1) := by decide +kernel
theorem dX7_readOath_43 : decode cX7_readOath 43 = .ok (.iconst 3, 1) := by decide +kernel
theorem dX7_readOath_44 : decode cX7_readOath 44 = .ok (.invokevirtual 130, 3) := by decide +kernel
theorem dX7_readOath_47 : decode cX7_readOath 47 = .ok (.ifCond .ne 5, 3) := by decide +kernel
theorem dX7_readOath_50 : decode cX7_readOath 50 = .ok (.iconst 0, 1) := by decide +kernel
theorem dX7_readOath_51 : decode cX7_readOath 51 = .ok (.ireturn, 1) := by decide +kernel
theorem dX7_readOath_52 : decode cX7_readOath 52 = .ok (.aload_n 0, 1) := by decide +kernel
theorem dX7_readOath_53 : decode cX7_readOath 53 = .ok (.getfield 12, 3) := by decide +kernel
theorem dX7_readOath_56 : decode cX7_readOath 56 = .ok (.iload_n 1, 1) := by decide +kernel
theorem dX7_readOath_57 : decode cX7_readOath 57 = .ok (.putfield 137, 3) := by decide +kernel
theorem dX7_readOath_60 : decode cX7_readOath 60 = .ok (.aload_n 0, 1) := by decide +kernel
theorem dX7_readOath_61 : decode cX7_readOath 61 = .ok (.getfield 12, 3) := by decide +kernel
theorem dX7_readOath_64 : decode cX7_readOath 64 = .ok (.aload_n 0, 1) := by decide +kernel
theorem dX7_readOath_65 : decode cX7_readOath 65 = .ok (.getfield 134, 3) := by decide +kernel
theorem dX7_readOath_68 : decode cX7_readOath 68 = .ok (.putfield 140, 3) := by decide +kernel
theorem dX7_readOath_71 : decode cX7_readOath 71 = .ok (.iconst 1, 1) := by decide +kernel
theorem dX7_readOath_72 : decode cX7_readOath 72 = .ok (.ireturn, 1) := by decide +kernel
theorem dX7_readHarbour_0 : decode cX7_readHarbour 0 = .ok (.aload_n 0, 1) := by decide +kernel
theorem dX7_readHarbour_1 : decode cX7_readHarbour 1 = .ok (.iconst 0, 1) := by decide +kernel
theorem dX7_readHarbour_2 : decode cX7_readHarbour 2 = .ok (.iload_n 1, 1) := by decide +kernel
theorem dX7_readHarbour_3 : decode cX7_readHarbour 3 = .ok (.invokevirtual 143, 3) := by decide +kernel
theorem dX7_readHarbour_6 : decode cX7_readHarbour 6 = .ok (.ifCond .eq 15, 3) := by decide +kernel
theorem dX7_readHarbour_9 : decode cX7_readHarbour 9 = .ok (.aload_n 0, 1) := by decide +kernel
theorem dX7_readHarbour_10 : decode cX7_readHarbour 10 = .ok (.bipush 14, 2) := by decide +kernel
theorem dX7_readHarbour_12 : decode cX7_readHarbour 12 = .ok (.iconst 0, 1) := by decide +kernel
theorem dX7_readHarbour_13 : decode cX7_readHarbour 13 = .ok (.bipush 100, 2) := by decide +kernel
theorem dX7_readHarbour_15 : decode cX7_readHarbour 15 = .ok (.invokevirtual 130, 3) := by decide +kernel
theorem dX7_readHarbour_18 : decode cX7_readHarbour 18 = .ok (.ifCond .ne 5, 3) := by decide +kernel
theorem dX7_readHarbour_21 : decode cX7_readHarbour 21 = .ok (.iconst 0, 1) := by decide +kernel
theorem dX7_readHarbour_22 : decode cX7_readHarbour 22 = .ok (.ireturn, 1) := by decide +kernel
theorem dX7_readHarbour_23 : decode cX7_readHarbour 23 = .ok (.aload_n 0, 1) := by decide +kernel
theorem dX7_readHarbour_24 : decode cX7_readHarbour 24 = .ok (.getfield 12, 3) := by decide +kernel
theorem dX7_readHarbour_27 : decode cX7_readHarbour 27 = .ok (.getfield 147, 3) := by decide +kernel
theorem dX7_readHarbour_30 : decode cX7_readHarbour 30 = .ok (.iload_n 1, 1) := by decide +kernel
theorem dX7_readHarbour_31 : decode cX7_readHarbour 31 = .ok (.aload_n 0, 1) := by decide +kernel
theorem dX7_readHarbour_32 : decode cX7_readHarbour 32 = .ok (.getfield 134, 3) := by decide +kernel
theorem dX7_readHarbour_35 : decode cX7_readHarbour 35 = .ok (.iastore, 1) := by decide +kernel
theorem dX7_readHarbour_36 : decode cX7_readHarbour 36 = .ok (.aload_n 0, 1) := by decide +kernel
theorem dX7_readHarbour_37 : decode cX7_readHarbour 37 = .ok (.bipush 15, 2) := by decide +kernel
theorem dX7_readHarbour_39 : decode cX7_readHarbour 39 = .ok (.iconst 0, 1) := by decide +kernel
theorem dX7_readHarbour_40 : decode cX7_readHarbour 40 = .ok (.bipush 99, 2) := by decide +kernel
theorem dX7_readHarbour_42 : decode cX7_readHarbour 42 = .ok (.invokevirtual 130, 3) := by decide +kernel
theorem dX7_readHarbour_45 : decode cX7_readHarbour 45 = .ok (.ifCond .ne 5, 3) := by decide +kernel
theorem dX7_readHarbour_48 : decode cX7_readHarbour 48 = .ok (.iconst 0, 1) := by decide +kernel
theorem dX7_readHarbour_49 : decode cX7_readHarbour 49 = .ok (.ireturn, 1) := by decide +kernel
theorem dX7_readHarbour_50 : decode cX7_readHarbour 50 = .ok (.aload_n 0, 1) := by decide +kernel
theorem dX7_readHarbour_51 : decode cX7_readHarbour 51 = .ok (.getfield 12, 3) := by decide +kernel
theorem dX7_readHarbour_54 : decode cX7_readHarbour 54 = .ok (.getfield 150, 3) := by decide +kernel
theorem dX7_readHarbour_57 : decode cX7_readHarbour 57 = .ok (.iload_n 1, 1) := by decide +kernel
theorem dX7_readHarbour_58 : decode cX7_readHarbour 58 = .ok (.aload_n 0, 1) := by decide +kernel
theorem dX7_readHarbour_59 : decode cX7_readHarbour 59 = .ok (.getfield 134, 3) := by decide +kernel
theorem dX7_readHarbour_62 : decode cX7_readHarbour 62 = .ok (.iastore, 1) := by decide +kernel
theorem dX7_readHarbour_63 : decode cX7_readHarbour 63 = .ok (.iconst 1, 1) := by decide +kernel
theorem dX7_readHarbour_64 : decode cX7_readHarbour 64 = .ok (.ireturn, 1) := by decide +kernel
theorem dX7_readSea_0 : decode cX7_readSea 0 = .ok (.aload_n 0, 1) := by decide +kernel
theorem dX7_readSea_1 : decode cX7_readSea 1 = .ok (.iconst 0, 1) := by decide +kernel
theorem dX7_readSea_2 : decode cX7_readSea 2 = .ok (.invokevirtual 153, 3) := by decide +kernel
theorem dX7_readSea_5 : decode cX7_readSea 5 = .ok (.ifCond .ne 5, 3) := by decide +kernel
theorem dX7_readSea_8 : decode cX7_readSea 8 = .ok (.iconst 0, 1) := by decide +kernel
theorem dX7_readSea_9 : decode cX7_readSea 9 = .ok (.ireturn, 1) := by decide +kernel
theorem dX7_readSea_10 : decode cX7_readSea 10 = .ok (.aload_n 0, 1) := by decide +kernel
theorem dX7_readSea_11 : decode cX7_readSea 11 = .ok (.getfield 134, 3) := by decide +kernel
theorem dX7_readSea_14 : decode cX7_readSea 14 = .ok (.istore_n 1, 1) := by decide +kernel
theorem dX7_readSea_15 : decode cX7_readSea 15 = .ok (.aload_n 0, 1) := by decide +kernel
theorem dX7_readSea_16 : decode cX7_readSea 16 = .ok (.invokevirtual 77, 3) := by decide +kernel
theorem dX7_readSea_19 : decode cX7_readSea 19 = .ok (.aload_n 0, 1) := by decide +kernel
theorem dX7_readSea_20 : decode cX7_readSea 20 = .ok (.iconst 0, 1) := by decide +kernel
theorem dX7_readSea_21 : decode cX7_readSea 21 = .ok (.invokevirtual 153, 3) := by decide +kernel
theorem dX7_readSea_24 : decode cX7_readSea 24 = .ok (.ifCond .ne 5, 3) := by decide +kernel
theorem dX7_readSea_27 : decode cX7_readSea 27 = .ok (.iconst 0, 1) := by decide +kernel
theorem dX7_readSea_28 : decode cX7_readSea 28 = .ok (.ireturn, 1) := by decide +kernel
theorem dX7_readSea_29 : decode cX7_readSea 29 = .ok (.aload_n 0, 1) := by decide +kernel
theorem dX7_readSea_30 : decode cX7_readSea 30 = .ok (.getfield 134, 3) := by decide +kernel
theorem dX7_readSea_33 : decode cX7_readSea 33 = .ok (.istore_n 2, 1) := by decide +kernel
theorem dX7_readSea_34 : decode cX7_readSea 34 = .ok (.aload_n 0, 1) := by decide +kernel
theorem dX7_readSea_35 : decode cX7_readSea 35 = .ok (.getfield 12, 3) := by decide +kernel
theorem dX7_readSea_38 : decode cX7_readSea 38 = .ok (.iload_n 1, 1) := by decide +kernel
theorem dX7_readSea_39 : decode cX7_readSea 39 = .ok (.iload_n 2, 1) := by decide +kernel
theorem dX7_readSea_40 : decode cX7_readSea 40 = .ok (.invokevirtual 156, 3) := by decide +kernel
theorem dX7_readSea_43 : decode cX7_readSea 43 = .ok (.ifCond .eq 9, 3) := by decide +kernel
theorem dX7_readSea_46 : decode cX7_readSea 46 = .ok (.aload_n 0, 1) := by decide +kernel
theorem dX7_readSea_47 : decode cX7_readSea 47 = .ok (.iconst 3, 1) := by decide +kernel
theorem dX7_readSea_48 : decode cX7_readSea 48 = .ok (.invokevirtual 96, 3) := by decide +kernel
theorem dX7_readSea_51 : decode cX7_readSea 51 = .ok (.ireturn, 1) := by decide +kernel
theorem dX7_readSea_52 : decode cX7_readSea 52 = .ok (.aload_n 0, 1) := by decide +kernel
theorem dX7_readSea_53 : decode cX7_readSea 53 = .ok (.getfield 12, 3) := by decide +kernel
theorem dX7_readSea_56 : decode cX7_readSea 56 = .ok (.getfield 159, 3) := by decide +kernel
theorem dX7_readSea_59 : decode cX7_readSea 59 = .ok (.iload_n 1, 1) := by decide +kernel
theorem dX7_readSea_60 : decode cX7_readSea 60 = .ok (.dup2, 1) := by decide +kernel
theorem dX7_readSea_61 : decode cX7_readSea 61 = .ok (.iaload, 1) := by decide +kernel
theorem dX7_readSea_62 : decode cX7_readSea 62 = .ok (.iconst 1, 1) := by decide +kernel
theorem dX7_readSea_63 : decode cX7_readSea 63 = .ok (.iload_n 2, 1) := by decide +kernel
theorem dX7_readSea_64 : decode cX7_readSea 64 = .ok (.ishl, 1) := by decide +kernel
theorem dX7_readSea_65 : decode cX7_readSea 65 = .ok (.ior, 1) := by decide +kernel
theorem dX7_readSea_66 : decode cX7_readSea 66 = .ok (.iastore, 1) := by decide +kernel
theorem dX7_readSea_67 : decode cX7_readSea 67 = .ok (.aload_n 0, 1) := by decide +kernel
theorem dX7_readSea_68 : decode cX7_readSea 68 = .ok (.getfield 12, 3) := by decide +kernel
theorem dX7_readSea_71 : decode cX7_readSea 71 = .ok (.getfield 159, 3) := by decide +kernel
theorem dX7_readSea_74 : decode cX7_readSea 74 = .ok (.iload_n 2, 1) := by decide +kernel
theorem dX7_readSea_75 : decode cX7_readSea 75 = .ok (.dup2, 1) := by decide +kernel
theorem dX7_readSea_76 : decode cX7_readSea 76 = .ok (.iaload, 1) := by decide +kernel
theorem dX7_readSea_77 : decode cX7_readSea 77 = .ok (.iconst 1, 1) := by decide +kernel
theorem dX7_readSea_78 : decode cX7_readSea 78 = .ok (.iload_n 1, 1) := by decide +kernel
theorem dX7_readSea_79 : decode cX7_readSea 79 = .ok (.ishl, 1) := by decide +kernel
theorem dX7_readSea_80 : decode cX7_readSea 80 = .ok (.ior, 1) := by decide +kernel
theorem dX7_readSea_81 : decode cX7_readSea 81 = .ok (.iastore, 1) := by decide +kernel
theorem dX7_readSea_82 : decode cX7_readSea 82 = .ok (.aload_n 0, 1) := by decide +kernel
theorem dX7_readSea_83 : decode cX7_readSea 83 = .ok (.invokevirtual 77, 3) := by decide +kernel
theorem dX7_readSea_86 : decode cX7_readSea 86 = .ok (.iconst 1, 1) := by decide +kernel
theorem dX7_readSea_87 : decode cX7_readSea 87 = .ok (.ireturn, 1) := by decide +kernel
theorem dX7_readWoman_0 : decode cX7_readWoman 0 = .ok (.aload_n 0, 1) := by decide +kernel
theorem dX7_readWoman_1 : decode cX7_readWoman 1 = .ok (.iconst 2, 1) := by decide +kernel
theorem dX7_readWoman_2 : decode cX7_readWoman 2 = .ok (.iload_n 1, 1) := by decide +kernel
theorem dX7_readWoman_3 : decode cX7_readWoman 3 = .ok (.invokevirtual 143, 3) := by decide +kernel
theorem dX7_readWoman_6 : decode cX7_readWoman 6 = .ok (.ifCond .ne 5, 3) := by decide +kernel
theorem dX7_readWoman_9 : decode cX7_readWoman 9 = .ok (.iconst 0, 1) := by decide +kernel
theorem dX7_readWoman_10 : decode cX7_readWoman 10 = .ok (.ireturn, 1) := by decide +kernel
theorem dX7_readWoman_11 : decode cX7_readWoman 11 = .ok (.aload_n 0, 1) := by decide +kernel
theorem dX7_readWoman_12 : decode cX7_readWoman 12 = .ok (.getfield 80, 3) := by decide +kernel
theorem dX7_readWoman_15 : decode cX7_readWoman 15 = .ok (.bipush 8, 2) := by decide +kernel
theorem dX7_readWoman_17 : decode cX7_readWoman 17 = .ok (.if_icmp .lt 12, 3) := by decide +kernel
theorem dX7_readWoman_20 : decode cX7_readWoman 20 = .ok (.aload_n 0, 1) := by decide +kernel
theorem dX7_readWoman_21 : decode cX7_readWoman 21 = .ok (.getfield 80, 3) := by decide +kernel
theorem dX7_readWoman_24 : decode cX7_readWoman 24 = .ok (.bipush 11, 2) := by decide +kernel
theorem dX7_readWoman_26 : decode cX7_readWoman 26 = .ok (.if_icmp .le 9, 3) := by decide +kernel
theorem dX7_readWoman_29 : decode cX7_readWoman 29 = .ok (.aload_n 0, 1) := by decide +kernel
theorem dX7_readWoman_30 : decode cX7_readWoman 30 = .ok (.iconst 1, 1) := by decide +kernel
theorem dX7_readWoman_31 : decode cX7_readWoman 31 = .ok (.invokevirtual 96, 3) := by decide +kernel
theorem dX7_readWoman_34 : decode cX7_readWoman 34 = .ok (.ireturn, 1) := by decide +kernel
theorem dX7_readWoman_35 : decode cX7_readWoman 35 = .ok (.aload_n 0, 1) := by decide +kernel
theorem dX7_readWoman_36 : decode cX7_readWoman 36 = .ok (.getfield 12, 3) := by decide +kernel
theorem dX7_readWoman_39 : decode cX7_readWoman 39 = .ok (.getfield 162, 3) := by decide +kernel
theorem dX7_readWoman_42 : decode cX7_readWoman 42 = .ok (.iload_n 1, 1) := by decide +kernel
theorem dX7_readWoman_43 : decode cX7_readWoman 43 = .ok (.aload_n 0, 1) := by decide +kernel
theorem dX7_readWoman_44 : decode cX7_readWoman 44 = .ok (.getfield 80, 3) := by decide +kernel
theorem dX7_readWoman_47 : decode cX7_readWoman 47 = .ok (.bipush 8, 2) := by decide +kernel
theorem dX7_readWoman_49 : decode cX7_readWoman 49 = .ok (.isub, 1) := by decide +kernel
theorem dX7_readWoman_50 : decode cX7_readWoman 50 = .ok (.iastore, 1) := by decide +kernel
theorem dX7_readWoman_51 : decode cX7_readWoman 51 = .ok (.aload_n 0, 1) := by decide +kernel
theorem dX7_readWoman_52 : decode cX7_readWoman 52 = .ok (.invokevirtual 77, 3) := by decide +kernel
theorem dX7_readWoman_55 : decode cX7_readWoman 55 = .ok (.aload_n 0, 1) := by decide +kernel
theorem dX7_readWoman_56 : decode cX7_readWoman 56 = .ok (.getfield 80, 3) := by decide +kernel
theorem dX7_readWoman_59 : decode cX7_readWoman 59 = .ok (.bipush 16, 2) := by decide +kernel
theorem dX7_readWoman_61 : decode cX7_readWoman 61 = .ok (.if_icmp .eq 9, 3) := by decide +kernel
theorem dX7_readWoman_64 : decode cX7_readWoman 64 = .ok (.aload_n 0, 1) := by decide +kernel
theorem dX7_readWoman_65 : decode cX7_readWoman 65 = .ok (.iconst 1, 1) := by decide +kernel
theorem dX7_readWoman_66 : decode cX7_readWoman 66 = .ok (.invokevirtual 96, 3) := by decide +kernel
theorem dX7_readWoman_69 : decode cX7_readWoman 69 = .ok (.ireturn, 1) := by decide +kernel
theorem dX7_readWoman_70 : decode cX7_readWoman 70 = .ok (.aload_n 0, 1) := by decide +kernel
theorem dX7_readWoman_71 : decode cX7_readWoman 71 = .ok (.invokevirtual 77, 3) := by decide +kernel
theorem dX7_readWoman_74 : decode cX7_readWoman 74 = .ok (.aload_n 0, 1) := by decide +kernel
theorem dX7_readWoman_75 : decode cX7_readWoman 75 = .ok (.iconst 0, 1) := by decide +kernel
theorem dX7_readWoman_76 : decode cX7_readWoman 76 = .ok (.invokevirtual 153, 3) := by decide +kernel
theorem dX7_readWoman_79 : decode cX7_readWoman 79 = .ok (.ifCond .ne 5, 3) := by decide +kernel
theorem dX7_readWoman_82 : decode cX7_readWoman 82 = .ok (.iconst 0, 1) := by decide +kernel
theorem dX7_readWoman_83 : decode cX7_readWoman 83 = .ok (.ireturn, 1) := by decide +kernel
theorem dX7_readWoman_84 : decode cX7_readWoman 84 = .ok (.aload_n 0, 1) := by decide +kernel
theorem dX7_readWoman_85 : decode cX7_readWoman 85 = .ok (.getfield 12, 3) := by decide +kernel
theorem dX7_readWoman_88 : decode cX7_readWoman 88 = .ok (.getfield 165, 3) := by decide +kernel
theorem dX7_readWoman_91 : decode cX7_readWoman 91 = .ok (.iload_n 1, 1) := by decide +kernel
theorem dX7_readWoman_92 : decode cX7_readWoman 92 = .ok (.aload_n 0, 1) := by decide +kernel
theorem dX7_readWoman_93 : decode cX7_readWoman 93 = .ok (.getfield 134, 3) := by decide +kernel
theorem dX7_readWoman_96 : decode cX7_readWoman 96 = .ok (.iastore, 1) := by decide +kernel
theorem dX7_readWoman_97 : decode cX7_readWoman 97 = .ok (.aload_n 0, 1) := by decide +kernel
theorem dX7_readWoman_98 : decode cX7_readWoman 98 = .ok (.invokevirtual 77, 3) := by decide +kernel
theorem dX7_readWoman_101 : decode cX7_readWoman 101 = .ok (.aload_n 0, 1) := by decide +kernel
theorem dX7_readWoman_102 : decode cX7_readWoman 102 = .ok (.bipush 17, 2) := by decide +kernel
theorem dX7_readWoman_104 : decode cX7_readWoman 104 = .ok (.iconst 0, 1) := by decide +kernel
theorem dX7_readWoman_105 : decode cX7_readWoman 105 = .ok (.bipush 99, 2) := by decide +kernel
theorem dX7_readWoman_107 : decode cX7_readWoman 107 = .ok (.invokevirtual 130, 3) := by decide +kernel
theorem dX7_readWoman_110 : decode cX7_readWoman 110 = .ok (.ifCond .ne 5, 3) := by decide +kernel
theorem dX7_readWoman_113 : decode cX7_readWoman 113 = .ok (.iconst 0, 1) := by decide +kernel
theorem dX7_readWoman_114 : decode cX7_readWoman 114 = .ok (.ireturn, 1) := by decide +kernel
theorem dX7_readWoman_115 : decode cX7_readWoman 115 = .ok (.aload_n 0, 1) := by decide +kernel
theorem dX7_readWoman_116 : decode cX7_readWoman 116 = .ok (.getfield 12, 3) := by decide +kernel
theorem dX7_readWoman_119 : decode cX7_readWoman 119 = .ok (.getfield 168, 3) := by decide +kernel
theorem dX7_readWoman_122 : decode cX7_readWoman 122 = .ok (.iload_n 1, 1) := by decide +kernel
theorem dX7_readWoman_123 : decode cX7_readWoman 123 = .ok (.aload_n 0, 1) := by decide +kernel
theorem dX7_readWoman_124 : decode cX7_readWoman 124 = .ok (.getfield 134, 3) := by decide +kernel
theorem dX7_readWoman_127 : decode cX7_readWoman 127 = .ok (.iastore, 1) := by decide +kernel
theorem dX7_readWoman_128 : decode cX7_readWoman 128 = .ok (.aload_n 0, 1) := by decide +kernel
theorem dX7_readWoman_129 : decode cX7_readWoman 129 = .ok (.bipush 18, 2) := by decide +kernel
theorem dX7_readWoman_131 : decode cX7_readWoman 131 = .ok (.iconst 0, 1) := by decide +kernel
theorem dX7_readWoman_132 : decode cX7_readWoman 132 = .ok (.bipush 60, 2) := by decide +kernel
theorem dX7_readWoman_134 : decode cX7_readWoman 134 = .ok (.invokevirtual 130, 3) := by decide +kernel
theorem dX7_readWoman_137 : decode cX7_readWoman 137 = .ok (.ifCond .ne 5, 3) := by decide +kernel
theorem dX7_readWoman_140 : decode cX7_readWoman 140 = .ok (.iconst 0, 1) := by decide +kernel
theorem dX7_readWoman_141 : decode cX7_readWoman 141 = .ok (.ireturn, 1) := by decide +kernel
theorem dX7_readWoman_142 : decode cX7_readWoman 142 = .ok (.aload_n 0, 1) := by decide +kernel
theorem dX7_readWoman_143 : decode cX7_readWoman 143 = .ok (.getfield 12, 3) := by decide +kernel
theorem dX7_readWoman_146 : decode cX7_readWoman 146 = .ok (.getfield 171, 3) := by decide +kernel
theorem dX7_readWoman_149 : decode cX7_readWoman 149 = .ok (.iload_n 1, 1) := by decide +kernel
theorem dX7_readWoman_150 : decode cX7_readWoman 150 = .ok (.aload_n 0, 1) := by decide +kernel
theorem dX7_readWoman_151 : decode cX7_readWoman 151 = .ok (.getfield 134, 3) := by decide +kernel
theorem dX7_readWoman_154 : decode cX7_readWoman 154 = .ok (.iastore, 1) := by decide +kernel
theorem dX7_readWoman_155 : decode cX7_readWoman 155 = .ok (.iconst 1, 1) := by decide +kernel
theorem dX7_readWoman_156 : decode cX7_readWoman 156 = .ok (.ireturn, 1) := by decide +kernel
theorem dX7_readRival_0 : decode cX7_readRival 0 = .ok (.aload_n 0, 1) := by decide +kernel
theorem dX7_readRival_1 : decode cX7_readRival 1 = .ok (.iconst 2, 1) := by decide +kernel
theorem dX7_readRival_2 : decode cX7_readRival 2 = .ok (.invokevirtual 153, 3) := by decide +kernel
theorem dX7_readRival_5 : decode cX7_readRival 5 = .ok (.ifCond .ne 5, 3) := by decide +kernel
theorem dX7_readRival_8 : decode cX7_readRival 8 = .ok (.iconst 0, 1) := by decide +kernel
theorem dX7_readRival_9 : decode cX7_readRival 9 = .ok (.ireturn, 1) := by decide +kernel
theorem dX7_readRival_10 : decode cX7_readRival 10 = .ok (.aload_n 0, 1) := by decide +kernel
theorem dX7_readRival_11 : decode cX7_readRival 11 = .ok (.getfield 12, 3) := by decide +kernel
theorem dX7_readRival_14 : decode cX7_readRival 14 = .ok (.getfield 174, 3) := by decide +kernel
theorem dX7_readRival_17 : decode cX7_readRival 17 = .ok (.iload_n 1, 1) := by decide +kernel
theorem dX7_readRival_18 : decode cX7_readRival 18 = .ok (.aload_n 0, 1) := by decide +kernel
theorem dX7_readRival_19 : decode cX7_readRival 19 = .ok (.getfield 134, 3) := by decide +kernel
theorem dX7_readRival_22 : decode cX7_readRival 22 = .ok (.iastore, 1) := by decide +kernel
theorem dX7_readRival_23 : decode cX7_readRival 23 = .ok (.aload_n 0, 1) := by decide +kernel
theorem dX7_readRival_24 : decode cX7_readRival 24 = .ok (.invokevirtual 77, 3) := by decide +kernel
theorem dX7_readRival_27 : decode cX7_readRival 27 = .ok (.aload_n 0, 1) := by decide +kernel
theorem dX7_readRival_28 : decode cX7_readRival 28 = .ok (.bipush 19, 2) := by decide +kernel
theorem dX7_readRival_30 : decode cX7_readRival 30 = .ok (.iconst 0, 1) := by decide +kernel
theorem dX7_readRival_31 : decode cX7_readRival 31 = .ok (.bipush 99, 2) := by decide +kernel
theorem dX7_readRival_33 : decode cX7_readRival 33 = .ok (.invokevirtual 130, 3) := by decide +kernel
theorem dX7_readRival_36 : decode cX7_readRival 36 = .ok (.ifCond .ne 5, 3) := by decide +kernel
theorem dX7_readRival_39 : decode cX7_readRival 39 = .ok (.iconst 0, 1) := by decide +kernel
theorem dX7_readRival_40 : decode cX7_readRival 40 = .ok (.ireturn, 1) := by decide +kernel
theorem dX7_readRival_41 : decode cX7_readRival 41 = .ok (.aload_n 0, 1) := by decide +kernel
theorem dX7_readRival_42 : decode cX7_readRival 42 = .ok (.getfield 12, 3) := by decide +kernel
theorem dX7_readRival_45 : decode cX7_readRival 45 = .ok (.getfield 177, 3) := by decide +kernel
theorem dX7_readRival_48 : decode cX7_readRival 48 = .ok (.iload_n 1, 1) := by decide +kernel
theorem dX7_readRival_49 : decode cX7_readRival 49 = .ok (.aload_n 0, 1) := by decide +kernel
theorem dX7_readRival_50 : decode cX7_readRival 50 = .ok (.getfield 134, 3) := by decide +kernel
theorem dX7_readRival_53 : decode cX7_readRival 53 = .ok (.iastore, 1) := by decide +kernel
theorem dX7_readRival_54 : decode cX7_readRival 54 = .ok (.iconst 1, 1) := by decide +kernel
theorem dX7_readRival_55 : decode cX7_readRival 55 = .ok (.ireturn, 1) := by decide +kernel
theorem dX7_readLetter_0 : decode cX7_readLetter 0 = .ok (.aload_n 0, 1) := by decide +kernel
theorem dX7_readLetter_1 : decode cX7_readLetter 1 = .ok (.iconst 0, 1) := by decide +kernel
theorem dX7_readLetter_2 : decode cX7_readLetter 2 = .ok (.invokevirtual 153, 3) := by decide +kernel
theorem dX7_readLetter_5 : decode cX7_readLetter 5 = .ok (.ifCond .ne 5, 3) := by decide +kernel
theorem dX7_readLetter_8 : decode cX7_readLetter 8 = .ok (.iconst 0, 1) := by decide +kernel
theorem dX7_readLetter_9 : decode cX7_readLetter 9 = .ok (.ireturn, 1) := by decide +kernel
theorem dX7_readLetter_10 : decode cX7_readLetter 10 = .ok (.aload_n 0, 1) := by decide +kernel
theorem dX7_readLetter_11 : decode cX7_readLetter 11 = .ok (.getfield 12, 3) := by decide +kernel
theorem dX7_readLetter_14 : decode cX7_readLetter 14 = .ok (.getfield 180, 3) := by decide +kernel
theorem dX7_readLetter_17 : decode cX7_readLetter 17 = .ok (.iload_n 1, 1) := by decide +kernel
theorem dX7_readLetter_18 : decode cX7_readLetter 18 = .ok (.aload_n 0, 1) := by decide +kernel
theorem dX7_readLetter_19 : decode cX7_readLetter 19 = .ok (.getfield 134, 3) := by decide +kernel
theorem dX7_readLetter_22 : decode cX7_readLetter 22 = .ok (.iastore, 1) := by decide +kernel
theorem dX7_readLetter_23 : decode cX7_readLetter 23 = .ok (.aload_n 0, 1) := by decide +kernel
theorem dX7_readLetter_24 : decode cX7_readLetter 24 = .ok (.invokevirtual 77, 3) := by decide +kernel
theorem dX7_readLetter_27 : decode cX7_readLetter 27 = .ok (.aload_n 0, 1) := by decide +kernel
theorem dX7_readLetter_28 : decode cX7_readLetter 28 = .ok (.bipush 20, 2) := by decide +kernel
theorem dX7_readLetter_30 : decode cX7_readLetter 30 = .ok (.iconst 1, 1) := by decide +kernel
theorem dX7_readLetter_31 : decode cX7_readLetter 31 = .ok (.iconst 5, 1) := by decide +kernel
theorem dX7_readLetter_32 : decode cX7_readLetter 32 = .ok (.invokevirtual 130, 3) := by decide +kernel
theorem dX7_readLetter_35 : decode cX7_readLetter 35 = .ok (.ifCond .ne 5, 3) := by decide +kernel
theorem dX7_readLetter_38 : decode cX7_readLetter 38 = .ok (.iconst 0, 1) := by decide +kernel
theorem dX7_readLetter_39 : decode cX7_readLetter 39 = .ok (.ireturn, 1) := by decide +kernel
theorem dX7_readLetter_40 : decode cX7_readLetter 40 = .ok (.aload_n 0, 1) := by decide +kernel
theorem dX7_readLetter_41 : decode cX7_readLetter 41 = .ok (.getfield 12, 3) := by decide +kernel
theorem dX7_readLetter_44 : decode cX7_readLetter 44 = .ok (.getfield 183, 3) := by decide +kernel
theorem dX7_readLetter_47 : decode cX7_readLetter 47 = .ok (.iload_n 1, 1) := by decide +kernel
theorem dX7_readLetter_48 : decode cX7_readLetter 48 = .ok (.aload_n 0, 1) := by decide +kernel
theorem dX7_readLetter_49 : decode cX7_readLetter 49 = .ok (.getfield 134, 3) := by decide +kernel
theorem dX7_readLetter_52 : decode cX7_readLetter 52 = .ok (.iastore, 1) := by decide +kernel
theorem dX7_readLetter_53 : decode cX7_readLetter 53 = .ok (.iconst 1, 1) := by decide +kernel
theorem dX7_readLetter_54 : decode cX7_readLetter 54 = .ok (.ireturn, 1) := by decide +kernel
theorem dX7_readHand_0 : decode cX7_readHand 0 = .ok (.aload_n 0, 1) := by decide +kernel
theorem dX7_readHand_1 : decode cX7_readHand 1 = .ok (.iconst 5, 1) := by decide +kernel
theorem dX7_readHand_2 : decode cX7_readHand 2 = .ok (.iload_n 1, 1) := by decide +kernel
theorem dX7_readHand_3 : decode cX7_readHand 3 = .ok (.invokevirtual 143, 3) := by decide +kernel
theorem dX7_readHand_6 : decode cX7_readHand 6 = .ok (.ifCond .eq 15, 3) := by decide +kernel
theorem dX7_readHand_9 : decode cX7_readHand 9 = .ok (.aload_n 0, 1) := by decide +kernel
theorem dX7_readHand_10 : decode cX7_readHand 10 = .ok (.bipush 21, 2) := by decide +kernel
theorem dX7_readHand_12 : decode cX7_readHand 12 = .ok (.iconst 0, 1) := by decide +kernel
theorem dX7_readHand_13 : decode cX7_readHand 13 = .ok (.bipush 60, 2) := by decide +kernel
theorem dX7_readHand_15 : decode cX7_readHand 15 = .ok (.invokevirtual 130, 3) := by decide +kernel
theorem dX7_readHand_18 : decode cX7_readHand 18 = .ok (.ifCond .ne 5, 3) := by decide +kernel
theorem dX7_readHand_21 : decode cX7_readHand 21 = .ok (.iconst 0, 1) := by decide +kernel
theorem dX7_readHand_22 : decode cX7_readHand 22 = .ok (.ireturn, 1) := by decide +kernel
theorem dX7_readHand_23 : decode cX7_readHand 23 = .ok (.aload_n 0, 1) := by decide +kernel
theorem dX7_readHand_24 : decode cX7_readHand 24 = .ok (.getfield 12, 3) := by decide +kernel
theorem dX7_readHand_27 : decode cX7_readHand 27 = .ok (.getfield 186, 3) := by decide +kernel
theorem dX7_readHand_30 : decode cX7_readHand 30 = .ok (.iload_n 1, 1) := by decide +kernel
theorem dX7_readHand_31 : decode cX7_readHand 31 = .ok (.aload_n 0, 1) := by decide +kernel
theorem dX7_readHand_32 : decode cX7_readHand 32 = .ok (.getfield 134, 3) := by decide +kernel
theorem dX7_readHand_35 : decode cX7_readHand 35 = .ok (.iastore, 1) := by decide +kernel
theorem dX7_readHand_36 : decode cX7_readHand 36 = .ok (.aload_n 0, 1) := by decide +kernel
theorem dX7_readHand_37 : decode cX7_readHand 37 = .ok (.bipush 22, 2) := by decide +kernel
theorem dX7_readHand_39 : decode cX7_readHand 39 = .ok (.iconst 1, 1) := by decide +kernel
theorem dX7_readHand_40 : decode cX7_readHand 40 = .ok (.bipush 9, 2) := by decide +kernel
theorem dX7_readHand_42 : decode cX7_readHand 42 = .ok (.invokevirtual 130, 3) := by decide +kernel
theorem dX7_readHand_45 : decode cX7_readHand 45 = .ok (.ifCond .ne 5, 3) := by decide +kernel
theorem dX7_readHand_48 : decode cX7_readHand 48 = .ok (.iconst 0, 1) := by decide +kernel
theorem dX7_readHand_49 : decode cX7_readHand 49 = .ok (.ireturn, 1) := by decide +kernel
theorem dX7_readHand_50 : decode cX7_readHand 50 = .ok (.aload_n 0, 1) := by decide +kernel
theorem dX7_readHand_51 : decode cX7_readHand 51 = .ok (.getfield 12, 3) := by decide +kernel
theorem dX7_readHand_54 : decode cX7_readHand 54 = .ok (.getfield 189, 3) := by decide +kernel
theorem dX7_readHand_57 : decode cX7_readHand 57 = .ok (.iload_n 1, 1) := by decide +kernel
theorem dX7_readHand_58 : decode cX7_readHand 58 = .ok (.aload_n 0, 1) := by decide +kernel
theorem dX7_readHand_59 : decode cX7_readHand 59 = .ok (.getfield 134, 3) := by decide +kernel
theorem dX7_readHand_62 : decode cX7_readHand 62 = .ok (.iastore, 1) := by decide +kernel
theorem dX7_readHand_63 : decode cX7_readHand 63 = .ok (.iconst 1, 1) := by decide +kernel
theorem dX7_readHand_64 : decode cX7_readHand 64 = .ok (.ireturn, 1) := by decide +kernel
theorem dX7_readNearly_0 : decode cX7_readNearly 0 = .ok (.aload_n 0, 1) := by decide +kernel
theorem dX7_readNearly_1 : decode cX7_readNearly 1 = .ok (.bipush 23, 2) := by decide +kernel
theorem dX7_readNearly_3 : decode cX7_readNearly 3 = .ok (.iconst 0, 1) := by decide +kernel
theorem dX7_readNearly_4 : decode cX7_readNearly 4 = .ok (.bipush 8, 2) := by decide +kernel
theorem dX7_readNearly_6 : decode cX7_readNearly 6 = .ok (.invokevirtual 130, 3) := by decide +kernel
theorem dX7_readNearly_9 : decode cX7_readNearly 9 = .ok (.ifCond .ne 5, 3) := by decide +kernel
theorem dX7_readNearly_12 : decode cX7_readNearly 12 = .ok (.iconst 0, 1) := by decide +kernel
theorem dX7_readNearly_13 : decode cX7_readNearly 13 = .ok (.ireturn, 1) := by decide +kernel
theorem dX7_readNearly_14 : decode cX7_readNearly 14 = .ok (.aload_n 0, 1) := by decide +kernel
theorem dX7_readNearly_15 : decode cX7_readNearly 15 = .ok (.getfield 12, 3) := by decide +kernel
theorem dX7_readNearly_18 : decode cX7_readNearly 18 = .ok (.getfield 192, 3) := by decide +kernel
theorem dX7_readNearly_21 : decode cX7_readNearly 21 = .ok (.iload_n 1, 1) := by decide +kernel
theorem dX7_readNearly_22 : decode cX7_readNearly 22 = .ok (.aload_n 0, 1) := by decide +kernel
theorem dX7_readNearly_23 : decode cX7_readNearly 23 = .ok (.getfield 134, 3) := by decide +kernel
theorem dX7_readNearly_26 : decode cX7_readNearly 26 = .ok (.iastore, 1) := by decide +kernel
theorem dX7_readNearly_27 : decode cX7_readNearly 27 = .ok (.aload_n 0, 1) := by decide +kernel
theorem dX7_readNearly_28 : decode cX7_readNearly 28 = .ok (.bipush 24, 2) := by decide +kernel
theorem dX7_readNearly_30 : decode cX7_readNearly 30 = .ok (.bipush 16, 2) := by decide +kernel
theorem dX7_readNearly_32 : decode cX7_readNearly 32 = .ok (.bipush 40, 2) := by decide +kernel
theorem dX7_readNearly_34 : decode cX7_readNearly 34 = .ok (.invokevirtual 130, 3) := by decide +kernel
theorem dX7_readNearly_37 : decode cX7_readNearly 37 = .ok (.ifCond .ne 5, 3) := by decide +kernel
theorem dX7_readNearly_40 : decode cX7_readNearly 40 = .ok (.iconst 0, 1) := by decide +kernel
theorem dX7_readNearly_41 : decode cX7_readNearly 41 = .ok (.ireturn, 1) := by decide +kernel
theorem dX7_readNearly_42 : decode cX7_readNearly 42 = .ok (.aload_n 0, 1) := by decide +kernel
theorem dX7_readNearly_43 : decode cX7_readNearly 43 = .ok (.getfield 12, 3) := by decide +kernel
theorem dX7_readNearly_46 : decode cX7_readNearly 46 = .ok (.getfield 195, 3) := by decide +kernel
theorem dX7_readNearly_49 : decode cX7_readNearly 49 = .ok (.iload_n 1, 1) := by decide +kernel
theorem dX7_readNearly_50 : decode cX7_readNearly 50 = .ok (.aload_n 0, 1) := by decide +kernel
theorem dX7_readNearly_51 : decode cX7_readNearly 51 = .ok (.getfield 134, 3) := by decide +kernel
theorem dX7_readNearly_54 : decode cX7_readNearly 54 = .ok (.iastore, 1) := by decide +kernel
theorem dX7_readNearly_55 : decode cX7_readNearly 55 = .ok (.iconst 1, 1) := by decide +kernel
theorem dX7_readNearly_56 : decode cX7_readNearly 56 = .ok (.ireturn, 1) := by decide +kernel
theorem dX7_fails_0 : decode cX7_fails 0 = .ok (.aload_n 0, 1) := by decide +kernel
theorem dX7_fails_1 : decode cX7_fails 1 = .ok (.iload_n 1, 1) := by decide +kernel
theorem dX7_fails_2 : decode cX7_fails 2 = .ok (.putfield 71, 3) := by decide +kernel
theorem dX7_fails_5 : decode cX7_fails 5 = .ok (.iconst 0, 1) := by decide +kernel
theorem dX7_fails_6 : decode cX7_fails 6 = .ok (.ireturn, 1) := by decide +kernel
theorem dX7_takeNumber_0 : decode cX7_takeNumber 0 = .ok (.aload_n 0, 1) := by decide +kernel
theorem dX7_takeNumber_1 : decode cX7_takeNumber 1 = .ok (.getfield 80, 3) := by decide +kernel
theorem dX7_takeNumber_4 : decode cX7_takeNumber 4 = .ok (.iload_n 1, 1) := by decide +kernel
theorem dX7_takeNumber_5 : decode cX7_takeNumber 5 = .ok (.if_icmp .eq 9, 3) := by decide +kernel
theorem dX7_takeNumber_8 : decode cX7_takeNumber 8 = .ok (.aload_n 0, 1) := by decide +kernel
theorem dX7_takeNumber_9 : decode cX7_takeNumber 9 = .ok (.iconst 1, 1) := by decide +kernel
theorem dX7_takeNumber_10 : decode cX7_takeNumber 10 = .ok (.invokevirtual 96, 3) := by decide +kernel
theorem dX7_takeNumber_13 : decode cX7_takeNumber 13 = .ok (.ireturn, 1) := by decide +kernel
theorem dX7_takeNumber_14 : decode cX7_takeNumber 14 = .ok (.aload_n 0, 1) := by decide +kernel
theorem dX7_takeNumber_15 : decode cX7_takeNumber 15 = .ok (.invokevirtual 77, 3) := by decide +kernel
theorem dX7_takeNumber_18 : decode cX7_takeNumber 18 = .ok (.aload_n 0, 1) := by decide +kernel
theorem dX7_takeNumber_19 : decode cX7_takeNumber 19 = .ok (.getfield 90, 3) := by decide +kernel
theorem dX7_takeNumber_22 : decode cX7_takeNumber 22 = .ok (.iconst 2, 1) := by decide +kernel
theorem dX7_takeNumber_23 : decode cX7_takeNumber 23 = .ok (.if_icmp .eq 9, 3) := by decide +kernel
theorem dX7_takeNumber_26 : decode cX7_takeNumber 26 = .ok (.aload_n 0, 1) := by decide +kernel
theorem dX7_takeNumber_27 : decode cX7_takeNumber 27 = .ok (.iconst 1, 1) := by decide +kernel
theorem dX7_takeNumber_28 : decode cX7_takeNumber 28 = .ok (.invokevirtual 96, 3) := by decide +kernel
theorem dX7_takeNumber_31 : decode cX7_takeNumber 31 = .ok (.ireturn, 1) := by decide +kernel
theorem dX7_takeNumber_32 : decode cX7_takeNumber 32 = .ok (.aload_n 0, 1) := by decide +kernel
theorem dX7_takeNumber_33 : decode cX7_takeNumber 33 = .ok (.getfield 198, 3) := by decide +kernel
theorem dX7_takeNumber_36 : decode cX7_takeNumber 36 = .ok (.iload_n 2, 1) := by decide +kernel
theorem dX7_takeNumber_37 : decode cX7_takeNumber 37 = .ok (.if_icmp .lt 11, 3) := by decide +kernel
theorem dX7_takeNumber_40 : decode cX7_takeNumber 40 = .ok (.aload_n 0, 1) := by decide +kernel
theorem dX7_takeNumber_41 : decode cX7_takeNumber 41 = .ok (.getfield 198, 3) := by decide +kernel
theorem dX7_takeNumber_44 : decode cX7_takeNumber 44 = .ok (.iload_n 3, 1) := by decide +kernel
theorem dX7_takeNumber_45 : decode cX7_takeNumber 45 = .ok (.if_icmp .le 9, 3) := by decide +kernel
theorem dX7_takeNumber_48 : decode cX7_takeNumber 48 = .ok (.aload_n 0, 1) := by decide +kernel
theorem dX7_takeNumber_49 : decode cX7_takeNumber 49 = .ok (.iconst 4, 1) := by decide +kernel
theorem dX7_takeNumber_50 : decode cX7_takeNumber 50 = .ok (.invokevirtual 96, 3) := by decide +kernel
theorem dX7_takeNumber_53 : decode cX7_takeNumber 53 = .ok (.ireturn, 1) := by decide +kernel
theorem dX7_takeNumber_54 : decode cX7_takeNumber 54 = .ok (.aload_n 0, 1) := by decide +kernel
theorem dX7_takeNumber_55 : decode cX7_takeNumber 55 = .ok (.aload_n 0, 1) := by decide +kernel
theorem dX7_takeNumber_56 : decode cX7_takeNumber 56 = .ok (.getfield 198, 3) := by decide +kernel
theorem dX7_takeNumber_59 : decode cX7_takeNumber 59 = .ok (.putfield 134, 3) := by decide +kernel
theorem dX7_takeNumber_62 : decode cX7_takeNumber 62 = .ok (.aload_n 0, 1) := by decide +kernel
theorem dX7_takeNumber_63 : decode cX7_takeNumber 63 = .ok (.invokevirtual 77, 3) := by decide +kernel
theorem dX7_takeNumber_66 : decode cX7_takeNumber 66 = .ok (.iconst 1, 1) := by decide +kernel
theorem dX7_takeNumber_67 : decode cX7_takeNumber 67 = .ok (.ireturn, 1) := by decide +kernel
theorem dX7_takeNewName_0 : decode cX7_takeNewName 0 = .ok (.aload_n 0, 1) := by decide +kernel
theorem dX7_takeNewName_1 : decode cX7_takeNewName 1 = .ok (.invokevirtual 201, 3) := by decide +kernel
theorem dX7_takeNewName_4 : decode cX7_takeNewName 4 = .ok (.ifCond .ne 9, 3) := by decide +kernel
theorem dX7_takeNewName_7 : decode cX7_takeNewName 7 = .ok (.aload_n 0, 1) := by decide +kernel
theorem dX7_takeNewName_8 : decode cX7_takeNewName 8 = .ok (.iconst 1, 1) := by decide +kernel
theorem dX7_takeNewName_9 : decode cX7_takeNewName 9 = .ok (.invokevirtual 96, 3) := by decide +kernel
theorem dX7_takeNewName_12 : decode cX7_takeNewName 12 = .ok (.ireturn, 1) := by decide +kernel
theorem dX7_takeNewName_13 : decode cX7_takeNewName 13 = .ok (.aload_n 0, 1) := by decide +kernel
theorem dX7_takeNewName_14 : decode cX7_takeNewName 14 = .ok (.invokevirtual 204, 3) := by decide +kernel
theorem dX7_takeNewName_17 : decode cX7_takeNewName 17 = .ok (.iconst (-1), 1) := by decide +kernel
theorem dX7_takeNewName_18 : decode cX7_takeNewName 18 = .ok (.if_icmp .eq 9, 3) := by decide +kernel
theorem dX7_takeNewName_21 : decode cX7_takeNewName 21 = .ok (.aload_n 0, 1) := by decide +kernel
theorem dX7_takeNewName_22 : decode cX7_takeNewName 22 = .ok (.iconst 3, 1) := by decide +kernel
theorem dX7_takeNewName_23 : decode cX7_takeNewName 23 = .ok (.invokevirtual 96, 3) := by decide +kernel
theorem dX7_takeNewName_26 : decode cX7_takeNewName 26 = .ok (.ireturn, 1) := by decide +kernel
theorem dX7_takeNewName_27 : decode cX7_takeNewName 27 = .ok (.aload_n 0, 1) := by decide +kernel
theorem dX7_takeNewName_28 : decode cX7_takeNewName 28 = .ok (.getfield 68, 3) := by decide +kernel
theorem dX7_takeNewName_31 : decode cX7_takeNewName 31 = .ok (.bipush 19, 2) := by decide +kernel
theorem dX7_takeNewName_33 : decode cX7_takeNewName 33 = .ok (.if_icmp .ge 46, 3) := by decide +kernel
theorem dX7_takeNewName_36 : decode cX7_takeNewName 36 = .ok (.aload_n 0, 1) := by decide +kernel
theorem dX7_takeNewName_37 : decode cX7_takeNewName 37 = .ok (.getfield 22, 3) := by decide +kernel
theorem dX7_takeNewName_40 : decode cX7_takeNewName 40 = .ok (.aload_n 0, 1) := by decide +kernel
theorem dX7_takeNewName_41 : decode cX7_takeNewName 41 = .ok (.getfield 68, 3) := by decide +kernel
theorem dX7_takeNewName_44 : decode cX7_takeNewName 44 = .ok (.aload_n 0, 1) := by decide +kernel
theorem dX7_takeNewName_45 : decode cX7_takeNewName 45 = .ok (.getfield 207, 3) := by decide +kernel
theorem dX7_takeNewName_48 : decode cX7_takeNewName 48 = .ok (.lastore, 1) := by decide +kernel
theorem dX7_takeNewName_49 : decode cX7_takeNewName 49 = .ok (.aload_n 0, 1) := by decide +kernel
theorem dX7_takeNewName_50 : decode cX7_takeNewName 50 = .ok (.getfield 25, 3) := by decide +kernel
theorem dX7_takeNewName_53 : decode cX7_takeNewName 53 = .ok (.aload_n 0, 1) := by decide +kernel
theorem dX7_takeNewName_54 : decode cX7_takeNewName 54 = .ok (.getfield 68, 3) := by decide +kernel
theorem dX7_takeNewName_57 : decode cX7_takeNewName 57 = .ok (.iload_n 1, 1) := by decide +kernel
theorem dX7_takeNewName_58 : decode cX7_takeNewName 58 = .ok (.iastore, 1) := by decide +kernel
theorem dX7_takeNewName_59 : decode cX7_takeNewName 59 = .ok (.aload_n 0, 1) := by decide +kernel
theorem dX7_takeNewName_60 : decode cX7_takeNewName 60 = .ok (.getfield 29, 3) := by decide +kernel
theorem dX7_takeNewName_63 : decode cX7_takeNewName 63 = .ok (.aload_n 0, 1) := by decide +kernel
theorem dX7_takeNewName_64 : decode cX7_takeNewName 64 = .ok (.getfield 68, 3) := by decide +kernel
theorem dX7_takeNewName_67 : decode cX7_takeNewName 67 = .ok (.iload_n 2, 1) := by decide +kernel
theorem dX7_takeNewName_68 : decode cX7_takeNewName 68 = .ok (.iastore, 1) := by decide +kernel
theorem dX7_takeNewName_69 : decode cX7_takeNewName 69 = .ok (.aload_n 0, 1) := by decide +kernel
theorem dX7_takeNewName_70 : decode cX7_takeNewName 70 = .ok (.dup, 1) := by decide +kernel
theorem dX7_takeNewName_71 : decode cX7_takeNewName 71 = .ok (.getfield 68, 3) := by decide +kernel
theorem dX7_takeNewName_74 : decode cX7_takeNewName 74 = .ok (.iconst 1, 1) := by decide +kernel
theorem dX7_takeNewName_75 : decode cX7_takeNewName 75 = .ok (.iadd, 1) := by decide +kernel
theorem dX7_takeNewName_76 : decode cX7_takeNewName 76 = .ok (.putfield 68, 3) := by decide +kernel
theorem dX7_takeNewName_79 : decode cX7_takeNewName 79 = .ok (.aload_n 0, 1) := by decide +kernel
theorem dX7_takeNewName_80 : decode cX7_takeNewName 80 = .ok (.invokevirtual 77, 3) := by decide +kernel
theorem dX7_takeNewName_83 : decode cX7_takeNewName 83 = .ok (.iconst 1, 1) := by decide +kernel
theorem dX7_takeNewName_84 : decode cX7_takeNewName 84 = .ok (.ireturn, 1) := by decide +kernel
theorem dX7_findName_0 : decode cX7_findName 0 = .ok (.aload_n 0, 1) := by decide +kernel
theorem dX7_findName_1 : decode cX7_findName 1 = .ok (.invokevirtual 201, 3) := by decide +kernel
theorem dX7_findName_4 : decode cX7_findName 4 = .ok (.ifCond .ne 9, 3) := by decide +kernel
theorem dX7_findName_7 : decode cX7_findName 7 = .ok (.aload_n 0, 1) := by decide +kernel
theorem dX7_findName_8 : decode cX7_findName 8 = .ok (.iconst 1, 1) := by decide +kernel
theorem dX7_findName_9 : decode cX7_findName 9 = .ok (.invokevirtual 96, 3) := by decide +kernel
theorem dX7_findName_12 : decode cX7_findName 12 = .ok (.ireturn, 1) := by decide +kernel
theorem dX7_findName_13 : decode cX7_findName 13 = .ok (.aload_n 0, 1) := by decide +kernel
theorem dX7_findName_14 : decode cX7_findName 14 = .ok (.invokevirtual 204, 3) := by decide +kernel
theorem dX7_findName_17 : decode cX7_findName 17 = .ok (.istore_n 2, 1) := by decide +kernel
theorem dX7_findName_18 : decode cX7_findName 18 = .ok (.iload_n 2, 1) := by decide +kernel
theorem dX7_findName_19 : decode cX7_findName 19 = .ok (.iconst (-1), 1) := by decide +kernel
theorem dX7_findName_20 : decode cX7_findName 20 = .ok (.if_icmp .eq 13, 3) := by decide +kernel
theorem dX7_findName_23 : decode cX7_findName 23 = .ok (.aload_n 0, 1) := by decide +kernel
theorem dX7_findName_24 : decode cX7_findName 24 = .ok (.getfield 25, 3) := by decide +kernel
theorem dX7_findName_27 : decode cX7_findName 27 = .ok (.iload_n 2, 1) := by decide +kernel
theorem dX7_findName_28 : decode cX7_findName 28 = .ok (.iaload, 1) := by decide +kernel
theorem dX7_findName_29 : decode cX7_findName 29 = .ok (.iload_n 1, 1) := by decide +kernel
theorem dX7_findName_30 : decode cX7_findName 30 = .ok (.if_icmp .eq 9, 3) := by decide +kernel
theorem dX7_findName_33 : decode cX7_findName 33 = .ok (.aload_n 0, 1) := by decide +kernel
theorem dX7_findName_34 : decode cX7_findName 34 = .ok (.iconst 2, 1) := by decide +kernel
theorem dX7_findName_35 : decode cX7_findName 35 = .ok (.invokevirtual 96, 3) := by decide +kernel
theorem dX7_findName_38 : decode cX7_findName 38 = .ok (.ireturn, 1) := by decide +kernel
theorem dX7_findName_39 : decode cX7_findName 39 = .ok (.aload_n 0, 1) := by decide +kernel
theorem dX7_findName_40 : decode cX7_findName 40 = .ok (.aload_n 0, 1) := by decide +kernel
theorem dX7_findName_41 : decode cX7_findName 41 = .ok (.getfield 29, 3) := by decide +kernel
theorem dX7_findName_44 : decode cX7_findName 44 = .ok (.iload_n 2, 1) := by decide +kernel
theorem dX7_findName_45 : decode cX7_findName 45 = .ok (.iaload, 1) := by decide +kernel
theorem dX7_findName_46 : decode cX7_findName 46 = .ok (.putfield 134, 3) := by decide +kernel
theorem dX7_findName_49 : decode cX7_findName 49 = .ok (.iconst 1, 1) := by decide +kernel
theorem dX7_findName_50 : decode cX7_findName 50 = .ok (.ireturn, 1) := by decide +kernel
theorem dX7_isName_0 : decode cX7_isName 0 = .ok (.aload_n 0, 1) := by decide +kernel
theorem dX7_isName_1 : decode cX7_isName 1 = .ok (.getfield 90, 3) := by decide +kernel
theorem dX7_isName_4 : decode cX7_isName 4 = .ok (.iconst 1, 1) := by decide +kernel
theorem dX7_isName_5 : decode cX7_isName 5 = .ok (.if_icmp .ne 24, 3) := by decide +kernel
theorem dX7_isName_8 : decode cX7_isName 8 = .ok (.aload_n 0, 1) := by decide +kernel
theorem dX7_isName_9 : decode cX7_isName 9 = .ok (.getfield 80, 3) := by decide +kernel
theorem dX7_isName_12 : decode cX7_isName 12 = .ok (.iconst (-1), 1) := by decide +kernel
theorem dX7_isName_13 : decode cX7_isName 13 = .ok (.if_icmp .eq 12, 3) := by decide +kernel
theorem dX7_isName_16 : decode cX7_isName 16 = .ok (.aload_n 0, 1) := by decide +kernel
theorem dX7_isName_17 : decode cX7_isName 17 = .ok (.getfield 80, 3) := by decide +kernel
theorem dX7_isName_20 : decode cX7_isName 20 = .ok (.bipush 7, 2) := by decide +kernel
theorem dX7_isName_22 : decode cX7_isName 22 = .ok (.if_icmp .le 7, 3) := by decide +kernel
theorem dX7_isName_25 : decode cX7_isName 25 = .ok (.iconst 1, 1) := by decide +kernel
theorem dX7_isName_26 : decode cX7_isName 26 = .ok (.goto 4, 3) := by decide +kernel
theorem dX7_isName_29 : decode cX7_isName 29 = .ok (.iconst 0, 1) := by decide +kernel
theorem dX7_isName_30 : decode cX7_isName 30 = .ok (.ireturn, 1) := by decide +kernel
theorem dX7_placeOfName_0 : decode cX7_placeOfName 0 = .ok (.iconst 0, 1) := by decide +kernel
theorem dX7_placeOfName_1 : decode cX7_placeOfName 1 = .ok (.istore_n 1, 1) := by decide +kernel
theorem dX7_placeOfName_2 : decode cX7_placeOfName 2 = .ok (.iload_n 1, 1) := by decide +kernel
theorem dX7_placeOfName_3 : decode cX7_placeOfName 3 = .ok (.aload_n 0, 1) := by decide +kernel
theorem dX7_placeOfName_4 : decode cX7_placeOfName 4 = .ok (.getfield 68, 3) := by decide +kernel
theorem dX7_placeOfName_7 : decode cX7_placeOfName 7 = .ok (.if_icmp .ge 25, 3) := by decide +kernel
theorem dX7_placeOfName_10 : decode cX7_placeOfName 10 = .ok (.aload_n 0, 1) := by decide +kernel
theorem dX7_placeOfName_11 : decode cX7_placeOfName 11 = .ok (.getfield 22, 3) := by decide +kernel
theorem dX7_placeOfName_14 : decode cX7_placeOfName 14 = .ok (.iload_n 1, 1) := by decide +kernel
theorem dX7_placeOfName_15 : decode cX7_placeOfName 15 = .ok (.laload, 1) := by decide +kernel
theorem dX7_placeOfName_16 : decode cX7_placeOfName 16 = .ok (.aload_n 0, 1) := by decide +kernel
theorem dX7_placeOfName_17 : decode cX7_placeOfName 17 = .ok (.getfield 207, 3) := by decide +kernel
theorem dX7_placeOfName_20 : decode cX7_placeOfName 20 = .ok (.lcmp, 1) := by decide +kernel
theorem dX7_placeOfName_21 : decode cX7_placeOfName 21 = .ok (.ifCond .ne 5, 3) := by decide +kernel
theorem dX7_placeOfName_24 : decode cX7_placeOfName 24 = .ok (.iload_n 1, 1) := by decide +kernel
theorem dX7_placeOfName_25 : decode cX7_placeOfName 25 = .ok (.ireturn, 1) := by decide +kernel
theorem dX7_placeOfName_26 : decode cX7_placeOfName 26 = .ok (.iinc 1 1, 3) := by decide +kernel
theorem dX7_placeOfName_29 : decode cX7_placeOfName 29 = .ok (.goto (-27), 3) := by decide +kernel
theorem dX7_placeOfName_32 : decode cX7_placeOfName 32 = .ok (.iconst (-1), 1) := by decide +kernel
theorem dX7_placeOfName_33 : decode cX7_placeOfName 33 = .ok (.ireturn, 1) := by decide +kernel
theorem dX7_advance_0 : decode cX7_advance 0 = .ok (.aload_n 0, 1) := by decide +kernel
theorem dX7_advance_1 : decode cX7_advance 1 = .ok (.getfield 65, 3) := by decide +kernel
theorem dX7_advance_4 : decode cX7_advance 4 = .ok (.aload_n 0, 1) := by decide +kernel
theorem dX7_advance_5 : decode cX7_advance 5 = .ok (.getfield 61, 3) := by decide +kernel
theorem dX7_advance_8 : decode cX7_advance 8 = .ok (.if_icmp .ge 30, 3) := by decide +kernel
theorem dX7_advance_11 : decode cX7_advance 11 = .ok (.aload_n 0, 1) := by decide +kernel
theorem dX7_advance_12 : decode cX7_advance 12 = .ok (.getfield 32, 3) := by decide +kernel
theorem dX7_advance_15 : decode cX7_advance 15 = .ok (.aload_n 0, 1) := by decide +kernel
theorem dX7_advance_16 : decode cX7_advance 16 = .ok (.getfield 65, 3) := by decide +kernel
theorem dX7_advance_19 : decode cX7_advance 19 = .ok (.baload, 1) := by decide +kernel
theorem dX7_advance_20 : decode cX7_advance 20 = .ok (.bipush 32, 2) := by decide +kernel
theorem dX7_advance_22 : decode cX7_advance 22 = .ok (.if_icmp .ne 16, 3) := by decide +kernel
theorem dX7_advance_25 : decode cX7_advance 25 = .ok (.aload_n 0, 1) := by decide +kernel
theorem dX7_advance_26 : decode cX7_advance 26 = .ok (.dup, 1) := by decide +kernel
theorem dX7_advance_27 : decode cX7_advance 27 = .ok (.getfield 65, 3) := by decide +kernel
theorem dX7_advance_30 : decode cX7_advance 30 = .ok (.iconst 1, 1) := by decide +kernel
theorem dX7_advance_31 : decode cX7_advance 31 = .ok (.iadd, 1) := by decide +kernel
theorem dX7_advance_32 : decode cX7_advance 32 = .ok (.putfield 65, 3) := by decide +kernel
theorem dX7_advance_35 : decode cX7_advance 35 = .ok (.goto (-35), 3) := by decide +kernel
theorem dX7_advance_38 : decode cX7_advance 38 = .ok (.aload_n 0, 1) := by decide +kernel
theorem dX7_advance_39 : decode cX7_advance 39 = .ok (.aload_n 0, 1) := by decide +kernel
theorem dX7_advance_40 : decode cX7_advance 40 = .ok (.getfield 65, 3) := by decide +kernel
theorem dX7_advance_43 : decode cX7_advance 43 = .ok (.putfield 211, 3) := by decide +kernel
theorem dX7_advance_46 : decode cX7_advance 46 = .ok (.aload_n 0, 1) := by decide +kernel
theorem dX7_advance_47 : decode cX7_advance 47 = .ok (.iconst (-1), 1) := by decide +kernel
theorem dX7_advance_48 : decode cX7_advance 48 = .ok (.putfield 80, 3) := by decide +kernel
theorem dX7_advance_51 : decode cX7_advance 51 = .ok (.aload_n 0, 1) := by decide +kernel
theorem dX7_advance_52 : decode cX7_advance 52 = .ok (.getfield 65, 3) := by decide +kernel
theorem dX7_advance_55 : decode cX7_advance 55 = .ok (.aload_n 0, 1) := by decide +kernel
theorem dX7_advance_56 : decode cX7_advance 56 = .ok (.getfield 61, 3) := by decide +kernel
theorem dX7_advance_59 : decode cX7_advance 59 = .ok (.if_icmp .lt 11, 3) := by decide +kernel
theorem dX7_advance_62 : decode cX7_advance 62 = .ok (.aload_n 0, 1) := by decide +kernel
theorem dX7_advance_63 : decode cX7_advance 63 = .ok (.iconst 0, 1) := by decide +kernel
theorem dX7_advance_64 : decode cX7_advance 64 = .ok (.putfield 90, 3) := by decide +kernel
theorem dX7_advance_67 : decode cX7_advance 67 = .ok (.goto 80, 3) := by decide +kernel
theorem dX7_advance_70 : decode cX7_advance 70 = .ok (.aload_n 0, 1) := by decide +kernel
theorem dX7_advance_71 : decode cX7_advance 71 = .ok (.getfield 32, 3) := by decide +kernel
theorem dX7_advance_74 : decode cX7_advance 74 = .ok (.aload_n 0, 1) := by decide +kernel
theorem dX7_advance_75 : decode cX7_advance 75 = .ok (.getfield 65, 3) := by decide +kernel
theorem dX7_advance_78 : decode cX7_advance 78 = .ok (.baload, 1) := by decide +kernel
theorem dX7_advance_79 : decode cX7_advance 79 = .ok (.invokestatic 214, 3) := by decide +kernel
theorem dX7_advance_82 : decode cX7_advance 82 = .ok (.ifCond .eq 10, 3) := by decide +kernel
theorem dX7_advance_85 : decode cX7_advance 85 = .ok (.aload_n 0, 1) := by decide +kernel
theorem dX7_advance_86 : decode cX7_advance 86 = .ok (.invokevirtual 217, 3) := by decide +kernel
theorem dX7_advance_89 : decode cX7_advance 89 = .ok (.goto 58, 3) := by decide +kernel
theorem dX7_advance_92 : decode cX7_advance 92 = .ok (.aload_n 0, 1) := by decide +kernel
theorem dX7_advance_93 : decode cX7_advance 93 = .ok (.getfield 32, 3) := by decide +kernel
theorem dX7_advance_96 : decode cX7_advance 96 = .ok (.aload_n 0, 1) := by decide +kernel
theorem dX7_advance_97 : decode cX7_advance 97 = .ok (.getfield 65, 3) := by decide +kernel
theorem dX7_advance_100 : decode cX7_advance 100 = .ok (.baload, 1) := by decide +kernel
theorem dX7_advance_101 : decode cX7_advance 101 = .ok (.invokestatic 220, 3) := by decide +kernel
theorem dX7_advance_104 : decode cX7_advance 104 = .ok (.ifCond .eq 10, 3) := by decide +kernel
theorem dX7_advance_107 : decode cX7_advance 107 = .ok (.aload_n 0, 1) := by decide +kernel
theorem dX7_advance_108 : decode cX7_advance 108 = .ok (.invokevirtual 223, 3) := by decide +kernel
theorem dX7_advance_111 : decode cX7_advance 111 = .ok (.goto 36, 3) := by decide +kernel
theorem dX7_advance_114 : decode cX7_advance 114 = .ok (.aload_n 0, 1) := by decide +kernel
theorem dX7_advance_115 : decode cX7_advance 115 = .ok (.aload_n 0, 1) := by decide +kernel
theorem dX7_advance_116 : decode cX7_advance 116 = .ok (.getfield 32, 3) := by decide +kernel
theorem dX7_advance_119 : decode cX7_advance 119 = .ok (.aload_n 0, 1) := by decide +kernel
theorem dX7_advance_120 : decode cX7_advance 120 = .ok (.getfield 65, 3) := by decide +kernel
theorem dX7_advance_123 : decode cX7_advance 123 = .ok (.baload, 1) := by decide +kernel
theorem dX7_advance_124 : decode cX7_advance 124 = .ok (.bipush 59, 2) := by decide +kernel
theorem dX7_advance_126 : decode cX7_advance 126 = .ok (.if_icmp .ne 7, 3) := by decide +kernel
theorem dX7_advance_129 : decode cX7_advance 129 = .ok (.iconst 3, 1) := by decide +kernel
theorem dX7_advance_130 : decode cX7_advance 130 = .ok (.goto 4, 3) := by decide +kernel
theorem dX7_advance_133 : decode cX7_advance 133 = .ok (.iconst 4, 1) := by decide +kernel
theorem dX7_advance_134 : decode cX7_advance 134 = .ok (.putfield 90, 3) := by decide +kernel
theorem dX7_advance_137 : decode cX7_advance 137 = .ok (.aload_n 0, 1) := by decide +kernel
theorem dX7_advance_138 : decode cX7_advance 138 = .ok (.dup, 1) := by decide +kernel
theorem dX7_advance_139 : decode cX7_advance 139 = .ok (.getfield 65, 3) := by decide +kernel
theorem dX7_advance_142 : decode cX7_advance 142 = .ok (.iconst 1, 1) := by decide +kernel
theorem dX7_advance_143 : decode cX7_advance 143 = .ok (.iadd, 1) := by decide +kernel
theorem dX7_advance_144 : decode cX7_advance 144 = .ok (.putfield 65, 3) := by decide +kernel
theorem dX7_advance_147 : decode cX7_advance 147 = .ok (.return_, 1) := by decide +kernel
theorem dX7_scanWord_0 : decode cX7_scanWord 0 = .ok (.aload_n 0, 1) := by decide +kernel
theorem dX7_scanWord_1 : decode cX7_scanWord 1 = .ok (.lconst 0, 1) := by decide +kernel
theorem dX7_scanWord_2 : decode cX7_scanWord 2 = .ok (.putfield 207, 3) := by decide +kernel
theorem dX7_scanWord_5 : decode cX7_scanWord 5 = .ok (.aload_n 0, 1) := by decide +kernel
theorem dX7_scanWord_6 : decode cX7_scanWord 6 = .ok (.getfield 65, 3) := by decide +kernel
theorem dX7_scanWord_9 : decode cX7_scanWord 9 = .ok (.aload_n 0, 1) := by decide +kernel
theorem dX7_scanWord_10 : decode cX7_scanWord 10 = .ok (.getfield 61, 3) := by decide +kernel
theorem dX7_scanWord_13 : decode cX7_scanWord 13 = .ok (.if_icmp .ge 51, 3) := by decide +kernel
theorem dX7_scanWord_16 : decode cX7_scanWord 16 = .ok (.aload_n 0, 1) := by decide +kernel
theorem dX7_scanWord_17 : decode cX7_scanWord 17 = .ok (.getfield 32, 3) := by decide +kernel
theorem dX7_scanWord_20 : decode cX7_scanWord 20 = .ok (.aload_n 0, 1) := by decide +kernel
theorem dX7_scanWord_21 : decode cX7_scanWord 21 = .ok (.getfield 65, 3) := by decide +kernel
theorem dX7_scanWord_24 : decode cX7_scanWord 24 = .ok (.baload, 1) := by decide +kernel
theorem dX7_scanWord_25 : decode cX7_scanWord 25 = .ok (.invokestatic 214, 3) := by decide +kernel
theorem dX7_scanWord_28 : decode cX7_scanWord 28 = .ok (.ifCond .eq 36, 3) := by decide +kernel
theorem dX7_scanWord_31 : decode cX7_scanWord 31 = .ok (.aload_n 0, 1) := by decide +kernel
theorem dX7_scanWord_32 : decode cX7_scanWord 32 = .ok (.aload_n 0, 1) := by decide +kernel
theorem dX7_scanWord_33 : decode cX7_scanWord 33 = .ok (.getfield 207, 3) := by decide +kernel
theorem dX7_scanWord_36 : decode cX7_scanWord 36 = .ok (.aload_n 0, 1) := by decide +kernel
theorem dX7_scanWord_37 : decode cX7_scanWord 37 = .ok (.getfield 32, 3) := by decide +kernel
theorem dX7_scanWord_40 : decode cX7_scanWord 40 = .ok (.aload_n 0, 1) := by decide +kernel
theorem dX7_scanWord_41 : decode cX7_scanWord 41 = .ok (.getfield 65, 3) := by decide +kernel
theorem dX7_scanWord_44 : decode cX7_scanWord 44 = .ok (.baload, 1) := by decide +kernel
theorem dX7_scanWord_45 : decode cX7_scanWord 45 = .ok (.invokestatic 48, 3) := by decide +kernel
theorem dX7_scanWord_48 : decode cX7_scanWord 48 = .ok (.putfield 207, 3) := by decide +kernel
theorem dX7_scanWord_51 : decode cX7_scanWord 51 = .ok (.aload_n 0, 1) := by decide +kernel
theorem dX7_scanWord_52 : decode cX7_scanWord 52 = .ok (.dup, 1) := by decide +kernel
theorem dX7_scanWord_53 : decode cX7_scanWord 53 = .ok (.getfield 65, 3) := by decide +kernel
theorem dX7_scanWord_56 : decode cX7_scanWord 56 = .ok (.iconst 1, 1) := by decide +kernel
theorem dX7_scanWord_57 : decode cX7_scanWord 57 = .ok (.iadd, 1) := by decide +kernel
theorem dX7_scanWord_58 : decode cX7_scanWord 58 = .ok (.putfield 65, 3) := by decide +kernel
theorem dX7_scanWord_61 : decode cX7_scanWord 61 = .ok (.goto (-56), 3) := by decide +kernel
theorem dX7_scanWord_64 : decode cX7_scanWord 64 = .ok (.aload_n 0, 1) := by decide +kernel
theorem dX7_scanWord_65 : decode cX7_scanWord 65 = .ok (.getfield 65, 3) := by decide +kernel
theorem dX7_scanWord_68 : decode cX7_scanWord 68 = .ok (.aload_n 0, 1) := by decide +kernel
theorem dX7_scanWord_69 : decode cX7_scanWord 69 = .ok (.getfield 211, 3) := by decide +kernel
theorem dX7_scanWord_72 : decode cX7_scanWord 72 = .ok (.isub, 1) := by decide +kernel
theorem dX7_scanWord_73 : decode cX7_scanWord 73 = .ok (.bipush 8, 2) := by decide +kernel
theorem dX7_scanWord_75 : decode cX7_scanWord 75 = .ok (.if_icmp .le 9, 3) := by decide +kernel
theorem dX7_scanWord_78 : decode cX7_scanWord 78 = .ok (.aload_n 0, 1) := by decide +kernel
theorem dX7_scanWord_79 : decode cX7_scanWord 79 = .ok (.iconst 4, 1) := by decide +kernel
theorem dX7_scanWord_80 : decode cX7_scanWord 80 = .ok (.putfield 90, 3) := by decide +kernel
theorem dX7_scanWord_83 : decode cX7_scanWord 83 = .ok (.return_, 1) := by decide +kernel
theorem dX7_scanWord_84 : decode cX7_scanWord 84 = .ok (.aload_n 0, 1) := by decide +kernel
theorem dX7_scanWord_85 : decode cX7_scanWord 85 = .ok (.iconst 1, 1) := by decide +kernel
theorem dX7_scanWord_86 : decode cX7_scanWord 86 = .ok (.putfield 90, 3) := by decide +kernel
theorem dX7_scanWord_89 : decode cX7_scanWord 89 = .ok (.iconst 0, 1) := by decide +kernel
theorem dX7_scanWord_90 : decode cX7_scanWord 90 = .ok (.istore_n 1, 1) := by decide +kernel
theorem dX7_scanWord_91 : decode cX7_scanWord 91 = .ok (.iload_n 1, 1) := by decide +kernel
theorem dX7_scanWord_92 : decode cX7_scanWord 92 = .ok (.bipush 25, 2) := by decide +kernel
theorem dX7_scanWord_94 : decode cX7_scanWord 94 = .ok (.if_icmp .ge 28, 3) := by decide +kernel
theorem dX7_scanWord_97 : decode cX7_scanWord 97 = .ok (.aload_n 0, 1) := by decide +kernel
theorem dX7_scanWord_98 : decode cX7_scanWord 98 = .ok (.getfield 18, 3) := by decide +kernel
theorem dX7_scanWord_101 : decode cX7_scanWord 101 = .ok (.iload_n 1, 1) := by decide +kernel
theorem dX7_scanWord_102 : decode cX7_scanWord 102 = .ok (.laload, 1) := by decide +kernel
theorem dX7_scanWord_103 : decode cX7_scanWord 103 = .ok (.aload_n 0, 1) := by decide +kernel
theorem dX7_scanWord_104 : decode cX7_scanWord 104 = .ok (.getfield 207, 3) := by decide +kernel
theorem dX7_scanWord_107 : decode cX7_scanWord 107 = .ok (.lcmp, 1) := by decide +kernel
theorem dX7_scanWord_108 : decode cX7_scanWord 108 = .ok (.ifCond .ne 8, 3) := by decide +kernel
theorem dX7_scanWord_111 : decode cX7_scanWord 111 = .ok (.aload_n 0, 1) := by decide +kernel
theorem dX7_scanWord_112 : decode cX7_scanWord 112 = .ok (.iload_n 1, 1) := by decide +kernel
theorem dX7_scanWord_113 : decode cX7_scanWord 113 = .ok (.putfield 80, 3) := by decide +kernel
theorem dX7_scanWord_116 : decode cX7_scanWord 116 = .ok (.iinc 1 1, 3) := by decide +kernel
theorem dX7_scanWord_119 : decode cX7_scanWord 119 = .ok (.goto (-28), 3) := by decide +kernel
theorem dX7_scanWord_122 : decode cX7_scanWord 122 = .ok (.return_, 1) := by decide +kernel
theorem dX7_scanWhole_0 : decode cX7_scanWhole 0 = .ok (.aload_n 0, 1) := by decide +kernel
theorem dX7_scanWhole_1 : decode cX7_scanWhole 1 = .ok (.iconst 0, 1) := by decide +kernel
theorem dX7_scanWhole_2 : decode cX7_scanWhole 2 = .ok (.putfield 198, 3) := by decide +kernel
theorem dX7_scanWhole_5 : decode cX7_scanWhole 5 = .ok (.aload_n 0, 1) := by decide +kernel
theorem dX7_scanWhole_6 : decode cX7_scanWhole 6 = .ok (.getfield 65, 3) := by decide +kernel
theorem dX7_scanWhole_9 : decode cX7_scanWhole 9 = .ok (.aload_n 0, 1) := by decide +kernel
theorem dX7_scanWhole_10 : decode cX7_scanWhole 10 = .ok (.getfield 61, 3) := by decide +kernel
theorem dX7_scanWhole_13 : decode cX7_scanWhole 13 = .ok (.if_icmp .ge 55, 3) := by decide +kernel
theorem dX7_scanWhole_16 : decode cX7_scanWhole 16 = .ok (.aload_n 0, 1) := by decide +kernel
theorem dX7_scanWhole_17 : decode cX7_scanWhole 17 = .ok (.getfield 32, 3) := by decide +kernel
theorem dX7_scanWhole_20 : decode cX7_scanWhole 20 = .ok (.aload_n 0, 1) := by decide +kernel
theorem dX7_scanWhole_21 : decode cX7_scanWhole 21 = .ok (.getfield 65, 3) := by decide +kernel
theorem dX7_scanWhole_24 : decode cX7_scanWhole 24 = .ok (.baload, 1) := by decide +kernel
theorem dX7_scanWhole_25 : decode cX7_scanWhole 25 = .ok (.invokestatic 220, 3) := by decide +kernel
theorem dX7_scanWhole_28 : decode cX7_scanWhole 28 = .ok (.ifCond .eq 40, 3) := by decide +kernel
theorem dX7_scanWhole_31 : decode cX7_scanWhole 31 = .ok (.aload_n 0, 1) := by decide +kernel
theorem dX7_scanWhole_32 : decode cX7_scanWhole 32 = .ok (.aload_n 0, 1) := by decide +kernel
theorem dX7_scanWhole_33 : decode cX7_scanWhole 33 = .ok (.getfield 198, 3) := by decide +kernel
theorem dX7_scanWhole_36 : decode cX7_scanWhole 36 = .ok (.bipush 10, 2) := by decide +kernel
theorem dX7_scanWhole_38 : decode cX7_scanWhole 38 = .ok (.imul, 1) := by decide +kernel
theorem dX7_scanWhole_39 : decode cX7_scanWhole 39 = .ok (.aload_n 0, 1) := by decide +kernel
theorem dX7_scanWhole_40 : decode cX7_scanWhole 40 = .ok (.getfield 32, 3) := by decide +kernel
theorem dX7_scanWhole_43 : decode cX7_scanWhole 43 = .ok (.aload_n 0, 1) := by decide +kernel
theorem dX7_scanWhole_44 : decode cX7_scanWhole 44 = .ok (.getfield 65, 3) := by decide +kernel
theorem dX7_scanWhole_47 : decode cX7_scanWhole 47 = .ok (.baload, 1) := by decide +kernel
theorem dX7_scanWhole_48 : decode cX7_scanWhole 48 = .ok (.bipush 48, 2) := by decide +kernel
theorem dX7_scanWhole_50 : decode cX7_scanWhole 50 = .ok (.isub, 1) := by decide +kernel
theorem dX7_scanWhole_51 : decode cX7_scanWhole 51 = .ok (.iadd, 1) := by decide +kernel
theorem dX7_scanWhole_52 : decode cX7_scanWhole 52 = .ok (.putfield 198, 3) := by decide +kernel
theorem dX7_scanWhole_55 : decode cX7_scanWhole 55 = .ok (.aload_n 0, 1) := by decide +kernel
theorem dX7_scanWhole_56 : decode cX7_scanWhole 56 = .ok (.dup, 1) := by decide +kernel
theorem dX7_scanWhole_57 : decode cX7_scanWhole 57 = .ok (.getfield 65, 3) := by decide +kernel
theorem dX7_scanWhole_60 : decode cX7_scanWhole 60 = .ok (.iconst 1, 1) := by decide +kernel
theorem dX7_scanWhole_61 : decode cX7_scanWhole 61 = .ok (.iadd, 1) := by decide +kernel
theorem dX7_scanWhole_62 : decode cX7_scanWhole 62 = .ok (.putfield 65, 3) := by decide +kernel
theorem dX7_scanWhole_65 : decode cX7_scanWhole 65 = .ok (.goto (-60), 3) := by decide +kernel
theorem dX7_scanWhole_68 : decode cX7_scanWhole 68 = .ok (.aload_n 0, 1) := by decide +kernel
theorem dX7_scanWhole_69 : decode cX7_scanWhole 69 = .ok (.aload_n 0, 1) := by decide +kernel
theorem dX7_scanWhole_70 : decode cX7_scanWhole 70 = .ok (.getfield 65, 3) := by decide +kernel
theorem dX7_scanWhole_73 : decode cX7_scanWhole 73 = .ok (.aload_n 0, 1) := by decide +kernel
theorem dX7_scanWhole_74 : decode cX7_scanWhole 74 = .ok (.getfield 211, 3) := by decide +kernel
theorem dX7_scanWhole_77 : decode cX7_scanWhole 77 = .ok (.isub, 1) := by decide +kernel
theorem dX7_scanWhole_78 : decode cX7_scanWhole 78 = .ok (.iconst 3, 1) := by decide +kernel
theorem dX7_scanWhole_79 : decode cX7_scanWhole 79 = .ok (.if_icmp .gt 7, 3) := by decide +kernel
theorem dX7_scanWhole_82 : decode cX7_scanWhole 82 = .ok (.iconst 2, 1) := by decide +kernel
theorem dX7_scanWhole_83 : decode cX7_scanWhole 83 = .ok (.goto 4, 3) := by decide +kernel
theorem dX7_scanWhole_86 : decode cX7_scanWhole 86 = .ok (.iconst 4, 1) := by decide +kernel
theorem dX7_scanWhole_87 : decode cX7_scanWhole 87 = .ok (.putfield 90, 3) := by decide +kernel
theorem dX7_scanWhole_90 : decode cX7_scanWhole 90 = .ok (.return_, 1) := by decide +kernel
theorem dX7_packed_0 : decode cX7_packed 0 = .ok (.lload_n 0, 1) := by decide +kernel
theorem dX7_packed_1 : decode cX7_packed 1 = .ok (.ldc2_w 226, 3) := by decide +kernel
theorem dX7_packed_4 : decode cX7_packed 4 = .ok (.lmul, 1) := by decide +kernel
theorem dX7_packed_5 : decode cX7_packed 5 = .ok (.iload_n 2, 1) := by decide +kernel
theorem dX7_packed_6 : decode cX7_packed 6 = .ok (.bipush 97, 2) := by decide +kernel
theorem dX7_packed_8 : decode cX7_packed 8 = .ok (.isub, 1) := by decide +kernel
theorem dX7_packed_9 : decode cX7_packed 9 = .ok (.iconst 1, 1) := by decide +kernel
theorem dX7_packed_10 : decode cX7_packed 10 = .ok (.iadd, 1) := by decide +kernel
theorem dX7_packed_11 : decode cX7_packed 11 = .ok (.i2l, 1) := by decide +kernel
theorem dX7_packed_12 : decode cX7_packed 12 = .ok (.ladd, 1) := by decide +kernel
theorem dX7_packed_13 : decode cX7_packed 13 = .ok (.lreturn, 1) := by decide +kernel
theorem dX7_isLetter_0 : decode cX7_isLetter 0 = .ok (.iload_n 0, 1) := by decide +kernel
theorem dX7_isLetter_1 : decode cX7_isLetter 1 = .ok (.bipush 97, 2) := by decide +kernel
theorem dX7_isLetter_3 : decode cX7_isLetter 3 = .ok (.if_icmp .lt 13, 3) := by decide +kernel
theorem dX7_isLetter_6 : decode cX7_isLetter 6 = .ok (.iload_n 0, 1) := by decide +kernel
theorem dX7_isLetter_7 : decode cX7_isLetter 7 = .ok (.bipush 122, 2) := by decide +kernel
theorem dX7_isLetter_9 : decode cX7_isLetter 9 = .ok (.if_icmp .gt 7, 3) := by decide +kernel
theorem dX7_isLetter_12 : decode cX7_isLetter 12 = .ok (.iconst 1, 1) := by decide +kernel
theorem dX7_isLetter_13 : decode cX7_isLetter 13 = .ok (.goto 4, 3) := by decide +kernel
theorem dX7_isLetter_16 : decode cX7_isLetter 16 = .ok (.iconst 0, 1) := by decide +kernel
theorem dX7_isLetter_17 : decode cX7_isLetter 17 = .ok (.ireturn, 1) := by decide +kernel
theorem dX7_isDigit_0 : decode cX7_isDigit 0 = .ok (.iload_n 0, 1) := by decide +kernel
theorem dX7_isDigit_1 : decode cX7_isDigit 1 = .ok (.bipush 48, 2) := by decide +kernel
theorem dX7_isDigit_3 : decode cX7_isDigit 3 = .ok (.if_icmp .lt 13, 3) := by decide +kernel
theorem dX7_isDigit_6 : decode cX7_isDigit 6 = .ok (.iload_n 0, 1) := by decide +kernel
theorem dX7_isDigit_7 : decode cX7_isDigit 7 = .ok (.bipush 57, 2) := by decide +kernel
theorem dX7_isDigit_9 : decode cX7_isDigit 9 = .ok (.if_icmp .gt 7, 3) := by decide +kernel
theorem dX7_isDigit_12 : decode cX7_isDigit 12 = .ok (.iconst 1, 1) := by decide +kernel
theorem dX7_isDigit_13 : decode cX7_isDigit 13 = .ok (.goto 4, 3) := by decide +kernel
theorem dX7_isDigit_16 : decode cX7_isDigit 16 = .ok (.iconst 0, 1) := by decide +kernel
theorem dX7_isDigit_17 : decode cX7_isDigit 17 = .ok (.ireturn, 1) := by decide +kernel
theorem dX8_init_0 : decode cX8_init 0 = .ok (.aload_n 0, 1) := by decide +kernel
theorem dX8_init_1 : decode cX8_init 1 = .ok (.invokespecial 3, 3) := by decide +kernel
theorem dX8_init_4 : decode cX8_init 4 = .ok (.aload_n 0, 1) := by decide +kernel
theorem dX8_init_5 : decode cX8_init 5 = .ok (.iconst 3, 1) := by decide +kernel
theorem dX8_init_6 : decode cX8_init 6 = .ok (.newarray .int, 2) := by decide +kernel
theorem dX8_init_8 : decode cX8_init 8 = .ok (.putfield 9, 3) := by decide +kernel
theorem dX8_init_11 : decode cX8_init 11 = .ok (.aload_n 0, 1) := by decide +kernel
theorem dX8_init_12 : decode cX8_init 12 = .ok (.iconst 3, 1) := by decide +kernel
theorem dX8_init_13 : decode cX8_init 13 = .ok (.newarray .int, 2) := by decide +kernel
theorem dX8_init_15 : decode cX8_init 15 = .ok (.putfield 15, 3) := by decide +kernel
theorem dX8_init_18 : decode cX8_init 18 = .ok (.aload_n 0, 1) := by decide +kernel
theorem dX8_init_19 : decode cX8_init 19 = .ok (.iconst 3, 1) := by decide +kernel
theorem dX8_init_20 : decode cX8_init 20 = .ok (.getstatic 18, 3) := by decide +kernel
theorem dX8_init_23 : decode cX8_init 23 = .ok (.iconst 2, 1) := by decide +kernel
theorem dX8_init_24 : decode cX8_init 24 = .ok (.iaload, 1) := by decide +kernel
theorem dX8_init_25 : decode cX8_init 25 = .ok (.multianewarray 21 2, 4) := by decide +kernel
theorem dX8_init_29 : decode cX8_init 29 = .ok (.putfield 23, 3) := by decide +kernel
theorem dX8_init_32 : decode cX8_init 32 = .ok (.return_, 1) := by decide +kernel
theorem dX8_seek_0 : decode cX8_seek 0 = .ok (.aload_n 0, 1) := by decide +kernel
theorem dX8_seek_1 : decode cX8_seek 1 = .ok (.iload_n 3, 1) := by decide +kernel
theorem dX8_seek_2 : decode cX8_seek 2 = .ok (.iconst 3, 1) := by decide +kernel
theorem dX8_seek_3 : decode cX8_seek 3 = .ok (.invokestatic 26, 3) := by decide +kernel
theorem dX8_seek_6 : decode cX8_seek 6 = .ok (.putfield 32, 3) := by decide +kernel
theorem dX8_seek_9 : decode cX8_seek 9 = .ok (.aload_n 0, 1) := by decide +kernel
theorem dX8_seek_10 : decode cX8_seek 10 = .ok (.aload_n 1, 1) := by decide +kernel
theorem dX8_seek_11 : decode cX8_seek 11 = .ok (.bipush 100, 2) := by decide +kernel
theorem dX8_seek_13 : decode cX8_seek 13 = .ok (.invokevirtual 36, 3) := by decide +kernel
theorem dX8_seek_16 : decode cX8_seek 16 = .ok (.putfield 42, 3) := by decide +kernel
theorem dX8_seek_19 : decode cX8_seek 19 = .ok (.aload_n 0, 1) := by decide +kernel
theorem dX8_seek_20 : decode cX8_seek 20 = .ok (.iconst 0, 1) := by decide +kernel
theorem dX8_seek_21 : decode cX8_seek 21 = .ok (.putfield 46, 3) := by decide +kernel
theorem dX8_seek_24 : decode cX8_seek 24 = .ok (.aload_n 0, 1) := by decide +kernel
theorem dX8_seek_25 : decode cX8_seek 25 = .ok (.lconst 0, 1) := by decide +kernel
theorem dX8_seek_26 : decode cX8_seek 26 = .ok (.putfield 49, 3) := by decide +kernel
theorem dX8_seek_29 : decode cX8_seek 29 = .ok (.iconst 0, 1) := by decide +kernel
theorem dX8_seek_30 : decode cX8_seek 30 = .ok (.istore 4, 2) := by decide +kernel
theorem dX8_seek_32 : decode cX8_seek 32 = .ok (.iload 4, 2) := by decide +kernel
theorem dX8_seek_34 : decode cX8_seek 34 = .ok (.aload_n 0, 1) := by decide +kernel
theorem dX8_seek_35 : decode cX8_seek 35 = .ok (.getfield 32, 3) := by decide +kernel
theorem dX8_seek_38 : decode cX8_seek 38 = .ok (.if_icmp .ge 71, 3) := by decide +kernel
theorem dX8_seek_41 : decode cX8_seek 41 = .ok (.iconst 0, 1) := by decide +kernel
theorem dX8_seek_42 : decode cX8_seek 42 = .ok (.istore 5, 2) := by decide +kernel
theorem dX8_seek_44 : decode cX8_seek 44 = .ok (.iload 5, 2) := by decide +kernel
theorem dX8_seek_46 : decode cX8_seek 46 = .ok (.aload_n 1, 1) := by decide +kernel
theorem dX8_seek_47 : decode cX8_seek 47 = .ok (.getfield 52, 3) := by decide +kernel
theorem dX8_seek_50 : decode cX8_seek 50 = .ok (.iconst 2, 1) := by decide +kernel
theorem dX8_seek_51 : decode cX8_seek 51 = .ok (.iaload, 1) := by decide +kernel
theorem dX8_seek_52 : decode cX8_seek 52 = .ok (.if_icmp .ge 51, 3) := by decide +kernel
theorem dX8_seek_55 : decode cX8_seek 55 = .ok (.aload_n 0, 1) := by decide +kernel
theorem dX8_seek_56 : decode cX8_seek 56 = .ok (.getfield 23, 3) := by decide +kernel
theorem dX8_seek_59 : decode cX8_seek 59 = .ok (.iload 4, 2) := by decide +kernel
theorem dX8_seek_61 : decode cX8_seek 61 = .ok (.aaload, 1) := by decide +kernel
theorem dX8_seek_62 : decode cX8_seek 62 = .ok (.iload 5, 2) := by decide +kernel
theorem dX8_seek_64 : decode cX8_seek 64 = .ok (.aload_n 2, 1) := by decide +kernel
theorem dX8_seek_65 : decode cX8_seek 65 = .ok (.iload 5, 2) := by decide +kernel
theorem dX8_seek_67 : decode cX8_seek 67 = .ok (.invokevirtual 55, 3) := by decide +kernel
theorem dX8_seek_70 : decode cX8_seek 70 = .ok (.ifCond .eq 7, 3) := by decide +kernel
theorem dX8_seek_73 : decode cX8_seek 73 = .ok (.lconst 0, 1) := by decide +kernel
theorem dX8_seek_74 : decode cX8_seek 74 = .ok (.goto 22, 3) := by decide +kernel
theorem dX8_seek_77 : decode cX8_seek 77 = .ok (.aload_n 1, 1) := by decide +kernel
theorem dX8_seek_78 : decode cX8_seek 78 = .ok (.aload_n 1, 1) := by decide +kernel
theorem dX8_seek_79 : decode cX8_seek 79 = .ok (.iload 5, 2) := by decide +kernel
theorem dX8_seek_81 : decode cX8_seek 81 = .ok (.aload_n 2, 1) := by decide +kernel
theorem dX8_seek_82 : decode cX8_seek 82 = .ok (.getfield 61, 3) := by decide +kernel
theorem dX8_seek_85 : decode cX8_seek 85 = .ok (.iconst 1, 1) := by decide +kernel
theorem dX8_seek_86 : decode cX8_seek 86 = .ok (.iadd, 1) := by decide +kernel
theorem dX8_seek_87 : decode cX8_seek 87 = .ok (.iload 4, 2) := by decide +kernel
theorem dX8_seek_89 : decode cX8_seek 89 = .ok (.iadd, 1) := by decide +kernel
theorem dX8_seek_90 : decode cX8_seek 90 = .ok (.invokevirtual 64, 3) := by decide +kernel
theorem dX8_seek_93 : decode cX8_seek 93 = .ok (.invokevirtual 36, 3) := by decide +kernel
theorem dX8_seek_96 : decode cX8_seek 96 = .ok (.lastore, 1) := by decide +kernel
theorem dX8_seek_97 : decode cX8_seek 97 = .ok (.iinc 5 1, 3) := by decide +kernel
theorem dX8_seek_100 : decode cX8_seek 100 = .ok (.goto (-56), 3) := by decide +kernel
theorem dX8_seek_103 : decode cX8_seek 103 = .ok (.iinc 4 1, 3) := by decide +kernel
theorem dX8_seek_106 : decode cX8_seek 106 = .ok (.goto (-74), 3) := by decide +kernel
theorem dX8_seek_109 : decode cX8_seek 109 = .ok (.aload_n 0, 1) := by decide +kernel
theorem dX8_seek_110 : decode cX8_seek 110 = .ok (.aload_n 1, 1) := by decide +kernel
theorem dX8_seek_111 : decode cX8_seek 111 = .ok (.iconst 0, 1) := by decide +kernel
theorem dX8_seek_112 : decode cX8_seek 112 = .ok (.iconst 0, 1) := by decide +kernel
theorem dX8_seek_113 : decode cX8_seek 113 = .ok (.aload_n 2, 1) := by decide +kernel
theorem dX8_seek_114 : decode cX8_seek 114 = .ok (.getfield 67, 3) := by decide +kernel
theorem dX8_seek_117 : decode cX8_seek 117 = .ok (.lconst 1, 1) := by decide +kernel
theorem dX8_seek_118 : decode cX8_seek 118 = .ok (.invokevirtual 70, 3) := by decide +kernel
