theorem dX12_newName_88 : decode cX12_newName 88 = .ok (.getfield 81, 3) := by decide +kernel
theorem dX12_newName_91 : decode cX12_newName 91 = .ok (.iastore, 1) := by decide +kernel
theorem dX12_newName_92 : decode cX12_newName 92 = .ok (.aload_n 0, 1) := by decide +kernel
theorem dX12_newName_93 : decode cX12_newName 93 = .ok (.invokevirtual 118, 3) := by decide +kernel
theorem dX12_newName_96 : decode cX12_newName 96 = .ok (.return_, 1) := by decide +kernel
theorem dX12_named_0 : decode cX12_named 0 = .ok (.aload_n 0, 1) := by decide +kernel
theorem dX12_named_1 : decode cX12_named 1 = .ok (.getfield 97, 3) := by decide +kernel
theorem dX12_named_4 : decode cX12_named 4 = .ok (.ifCond .eq 5, 3) := by decide +kernel
theorem dX12_named_7 : decode cX12_named 7 = .ok (.iconst 0, 1) := by decide +kernel
theorem dX12_named_8 : decode cX12_named 8 = .ok (.ireturn, 1) := by decide +kernel
theorem dX12_named_9 : decode cX12_named 9 = .ok (.aload_n 0, 1) := by decide +kernel
theorem dX12_named_10 : decode cX12_named 10 = .ok (.invokevirtual 144, 3) := by decide +kernel
theorem dX12_named_13 : decode cX12_named 13 = .ok (.aload_n 0, 1) := by decide +kernel
theorem dX12_named_14 : decode cX12_named 14 = .ok (.getfield 97, 3) := by decide +kernel
theorem dX12_named_17 : decode cX12_named 17 = .ok (.ifCond .eq 5, 3) := by decide +kernel
theorem dX12_named_20 : decode cX12_named 20 = .ok (.iconst 0, 1) := by decide +kernel
theorem dX12_named_21 : decode cX12_named 21 = .ok (.ireturn, 1) := by decide +kernel
theorem dX12_named_22 : decode cX12_named 22 = .ok (.aload_n 0, 1) := by decide +kernel
theorem dX12_named_23 : decode cX12_named 23 = .ok (.invokevirtual 147, 3) := by decide +kernel
theorem dX12_named_26 : decode cX12_named 26 = .ok (.istore_n 3, 1) := by decide +kernel
theorem dX12_named_27 : decode cX12_named 27 = .ok (.iload_n 3, 1) := by decide +kernel
theorem dX12_named_28 : decode cX12_named 28 = .ok (.iload_n 1, 1) := by decide +kernel
theorem dX12_named_29 : decode cX12_named 29 = .ok (.iload_n 2, 1) := by decide +kernel
theorem dX12_named_30 : decode cX12_named 30 = .ok (.invokestatic 150, 3) := by decide +kernel
theorem dX12_named_33 : decode cX12_named 33 = .ok (.ifCond .ne 12, 3) := by decide +kernel
theorem dX12_named_36 : decode cX12_named 36 = .ok (.aload_n 0, 1) := by decide +kernel
theorem dX12_named_37 : decode cX12_named 37 = .ok (.iconst 2, 1) := by decide +kernel
theorem dX12_named_38 : decode cX12_named 38 = .ok (.aload_n 0, 1) := by decide +kernel
theorem dX12_named_39 : decode cX12_named 39 = .ok (.getfield 78, 3) := by decide +kernel
theorem dX12_named_42 : decode cX12_named 42 = .ok (.invokevirtual 124, 3) := by decide +kernel
theorem dX12_named_45 : decode cX12_named 45 = .ok (.aload_n 0, 1) := by decide +kernel
theorem dX12_named_46 : decode cX12_named 46 = .ok (.getfield 97, 3) := by decide +kernel
theorem dX12_named_49 : decode cX12_named 49 = .ok (.ifCond .eq 7, 3) := by decide +kernel
theorem dX12_named_52 : decode cX12_named 52 = .ok (.iconst 0, 1) := by decide +kernel
theorem dX12_named_53 : decode cX12_named 53 = .ok (.goto 6, 3) := by decide +kernel
theorem dX12_named_56 : decode cX12_named 56 = .ok (.iload_n 3, 1) := by decide +kernel
theorem dX12_named_57 : decode cX12_named 57 = .ok (.iload_n 1, 1) := by decide +kernel
theorem dX12_named_58 : decode cX12_named 58 = .ok (.isub, 1) := by decide +kernel
theorem dX12_named_59 : decode cX12_named 59 = .ok (.ireturn, 1) := by decide +kernel
theorem dX12_harbourHere_0 : decode cX12_harbourHere 0 = .ok (.aload_n 0, 1) := by decide +kernel
theorem dX12_harbourHere_1 : decode cX12_harbourHere 1 = .ok (.iconst 0, 1) := by decide +kernel
theorem dX12_harbourHere_2 : decode cX12_harbourHere 2 = .ok (.iconst 5, 1) := by decide +kernel
theorem dX12_harbourHere_3 : decode cX12_harbourHere 3 = .ok (.invokevirtual 154, 3) := by decide +kernel
theorem dX12_harbourHere_6 : decode cX12_harbourHere 6 = .ok (.ireturn, 1) := by decide +kernel
theorem dX12_harbourPassed_0 : decode cX12_harbourPassed 0 = .ok (.aload_n 0, 1) := by decide +kernel
theorem dX12_harbourPassed_1 : decode cX12_harbourPassed 1 = .ok (.invokevirtual 158, 3) := by decide +kernel
theorem dX12_harbourPassed_4 : decode cX12_harbourPassed 4 = .ok (.istore_n 1, 1) := by decide +kernel
theorem dX12_harbourPassed_5 : decode cX12_harbourPassed 5 = .ok (.aload_n 0, 1) := by decide +kernel
theorem dX12_harbourPassed_6 : decode cX12_harbourPassed 6 = .ok (.getfield 97, 3) := by decide +kernel
theorem dX12_harbourPassed_9 : decode cX12_harbourPassed 9 = .ok (.ifCond .ne 7, 3) := by decide +kernel
theorem dX12_harbourPassed_12 : decode cX12_harbourPassed 12 = .ok (.aload_n 0, 1) := by decide +kernel
theorem dX12_harbourPassed_13 : decode cX12_harbourPassed 13 = .ok (.invokevirtual 118, 3) := by decide +kernel
theorem dX12_harbourPassed_16 : decode cX12_harbourPassed 16 = .ok (.iload_n 1, 1) := by decide +kernel
theorem dX12_harbourPassed_17 : decode cX12_harbourPassed 17 = .ok (.ireturn, 1) := by decide +kernel
theorem dX12_number_0 : decode cX12_number 0 = .ok (.aload_n 0, 1) := by decide +kernel
theorem dX12_number_1 : decode cX12_number 1 = .ok (.getfield 97, 3) := by decide +kernel
theorem dX12_number_4 : decode cX12_number 4 = .ok (.ifCond .eq 5, 3) := by decide +kernel
theorem dX12_number_7 : decode cX12_number 7 = .ok (.iload_n 1, 1) := by decide +kernel
theorem dX12_number_8 : decode cX12_number 8 = .ok (.ireturn, 1) := by decide +kernel
theorem dX12_number_9 : decode cX12_number 9 = .ok (.aload_n 0, 1) := by decide +kernel
theorem dX12_number_10 : decode cX12_number 10 = .ok (.getfield 87, 3) := by decide +kernel
theorem dX12_number_13 : decode cX12_number 13 = .ok (.iconst 3, 1) := by decide +kernel
theorem dX12_number_14 : decode cX12_number 14 = .ok (.if_icmp .eq 15, 3) := by decide +kernel
theorem dX12_number_17 : decode cX12_number 17 = .ok (.aload_n 0, 1) := by decide +kernel
theorem dX12_number_18 : decode cX12_number 18 = .ok (.iconst 1, 1) := by decide +kernel
theorem dX12_number_19 : decode cX12_number 19 = .ok (.aload_n 0, 1) := by decide +kernel
theorem dX12_number_20 : decode cX12_number 20 = .ok (.getfield 78, 3) := by decide +kernel
theorem dX12_number_23 : decode cX12_number 23 = .ok (.invokevirtual 124, 3) := by decide +kernel
theorem dX12_number_26 : decode cX12_number 26 = .ok (.goto 24, 3) := by decide +kernel
theorem dX12_number_29 : decode cX12_number 29 = .ok (.aload_n 0, 1) := by decide +kernel
theorem dX12_number_30 : decode cX12_number 30 = .ok (.getfield 84, 3) := by decide +kernel
theorem dX12_number_33 : decode cX12_number 33 = .ok (.iload_n 1, 1) := by decide +kernel
theorem dX12_number_34 : decode cX12_number 34 = .ok (.iload_n 2, 1) := by decide +kernel
theorem dX12_number_35 : decode cX12_number 35 = .ok (.invokestatic 150, 3) := by decide +kernel
theorem dX12_number_38 : decode cX12_number 38 = .ok (.ifCond .ne 12, 3) := by decide +kernel
theorem dX12_number_41 : decode cX12_number 41 = .ok (.aload_n 0, 1) := by decide +kernel
theorem dX12_number_42 : decode cX12_number 42 = .ok (.iconst 4, 1) := by decide +kernel
theorem dX12_number_43 : decode cX12_number 43 = .ok (.aload_n 0, 1) := by decide +kernel
theorem dX12_number_44 : decode cX12_number 44 = .ok (.getfield 78, 3) := by decide +kernel
theorem dX12_number_47 : decode cX12_number 47 = .ok (.invokevirtual 124, 3) := by decide +kernel
theorem dX12_number_50 : decode cX12_number 50 = .ok (.aload_n 0, 1) := by decide +kernel
theorem dX12_number_51 : decode cX12_number 51 = .ok (.getfield 97, 3) := by decide +kernel
theorem dX12_number_54 : decode cX12_number 54 = .ok (.ifCond .eq 5, 3) := by decide +kernel
theorem dX12_number_57 : decode cX12_number 57 = .ok (.iload_n 1, 1) := by decide +kernel
theorem dX12_number_58 : decode cX12_number 58 = .ok (.ireturn, 1) := by decide +kernel
theorem dX12_number_59 : decode cX12_number 59 = .ok (.aload_n 0, 1) := by decide +kernel
theorem dX12_number_60 : decode cX12_number 60 = .ok (.getfield 84, 3) := by decide +kernel
theorem dX12_number_63 : decode cX12_number 63 = .ok (.istore_n 3, 1) := by decide +kernel
theorem dX12_number_64 : decode cX12_number 64 = .ok (.aload_n 0, 1) := by decide +kernel
theorem dX12_number_65 : decode cX12_number 65 = .ok (.invokevirtual 118, 3) := by decide +kernel
theorem dX12_number_68 : decode cX12_number 68 = .ok (.iload_n 3, 1) := by decide +kernel
theorem dX12_number_69 : decode cX12_number 69 = .ok (.ireturn, 1) := by decide +kernel
theorem dX12_after_0 : decode cX12_after 0 = .ok (.aload_n 0, 1) := by decide +kernel
theorem dX12_after_1 : decode cX12_after 1 = .ok (.aload_n 1, 1) := by decide +kernel
theorem dX12_after_2 : decode cX12_after 2 = .ok (.invokevirtual 161, 3) := by decide +kernel
theorem dX12_after_5 : decode cX12_after 5 = .ok (.aload_n 0, 1) := by decide +kernel
theorem dX12_after_6 : decode cX12_after 6 = .ok (.iload_n 2, 1) := by decide +kernel
theorem dX12_after_7 : decode cX12_after 7 = .ok (.iload_n 3, 1) := by decide +kernel
theorem dX12_after_8 : decode cX12_after 8 = .ok (.invokevirtual 165, 3) := by decide +kernel
theorem dX12_after_11 : decode cX12_after 11 = .ok (.ireturn, 1) := by decide +kernel
theorem dX12_oath_0 : decode cX12_oath 0 = .ok (.aload_n 0, 1) := by decide +kernel
theorem dX12_oath_1 : decode cX12_oath 1 = .ok (.invokevirtual 168, 3) := by decide +kernel
theorem dX12_oath_4 : decode cX12_oath 4 = .ok (.iload_n 1, 1) := by decide +kernel
theorem dX12_oath_5 : decode cX12_oath 5 = .ok (.iconst 0, 1) := by decide +kernel
theorem dX12_oath_6 : decode cX12_oath 6 = .ok (.aload_n 0, 1) := by decide +kernel
theorem dX12_oath_7 : decode cX12_oath 7 = .ok (.getfield 65, 3) := by decide +kernel
theorem dX12_oath_10 : decode cX12_oath 10 = .ok (.invokestatic 150, 3) := by decide +kernel
theorem dX12_oath_13 : decode cX12_oath 13 = .ok (.ifCond .ne 9, 3) := by decide +kernel
theorem dX12_oath_16 : decode cX12_oath 16 = .ok (.aload_n 0, 1) := by decide +kernel
theorem dX12_oath_17 : decode cX12_oath 17 = .ok (.iconst 2, 1) := by decide +kernel
theorem dX12_oath_18 : decode cX12_oath 18 = .ok (.invokevirtual 171, 3) := by decide +kernel
theorem dX12_oath_21 : decode cX12_oath 21 = .ok (.ireturn, 1) := by decide +kernel
theorem dX12_oath_22 : decode cX12_oath 22 = .ok (.aload_n 0, 1) := by decide +kernel
theorem dX12_oath_23 : decode cX12_oath 23 = .ok (.iconst 0, 1) := by decide +kernel
theorem dX12_oath_24 : decode cX12_oath 24 = .ok (.putfield 65, 3) := by decide +kernel
theorem dX12_oath_27 : decode cX12_oath 27 = .ok (.aload_n 0, 1) := by decide +kernel
theorem dX12_oath_28 : decode cX12_oath 28 = .ok (.iconst 0, 1) := by decide +kernel
theorem dX12_oath_29 : decode cX12_oath 29 = .ok (.putfield 101, 3) := by decide +kernel
theorem dX12_oath_32 : decode cX12_oath 32 = .ok (.aload_n 0, 1) := by decide +kernel
theorem dX12_oath_33 : decode cX12_oath 33 = .ok (.iconst 0, 1) := by decide +kernel
theorem dX12_oath_34 : decode cX12_oath 34 = .ok (.putfield 97, 3) := by decide +kernel
theorem dX12_oath_37 : decode cX12_oath 37 = .ok (.iconst 0, 1) := by decide +kernel
theorem dX12_oath_38 : decode cX12_oath 38 = .ok (.istore_n 2, 1) := by decide +kernel
theorem dX12_oath_39 : decode cX12_oath 39 = .ok (.iload_n 2, 1) := by decide +kernel
theorem dX12_oath_40 : decode cX12_oath 40 = .ok (.sipush 276, 3) := by decide +kernel
theorem dX12_oath_43 : decode cX12_oath 43 = .ok (.if_icmp .ge 16, 3) := by decide +kernel
theorem dX12_oath_46 : decode cX12_oath 46 = .ok (.aload_n 0, 1) := by decide +kernel
theorem dX12_oath_47 : decode cX12_oath 47 = .ok (.getfield 23, 3) := by decide +kernel
theorem dX12_oath_50 : decode cX12_oath 50 = .ok (.iload_n 2, 1) := by decide +kernel
theorem dX12_oath_51 : decode cX12_oath 51 = .ok (.iconst 0, 1) := by decide +kernel
theorem dX12_oath_52 : decode cX12_oath 52 = .ok (.iastore, 1) := by decide +kernel
theorem dX12_oath_53 : decode cX12_oath 53 = .ok (.iinc 2 1, 3) := by decide +kernel
theorem dX12_oath_56 : decode cX12_oath 56 = .ok (.goto (-17), 3) := by decide +kernel
theorem dX12_oath_59 : decode cX12_oath 59 = .ok (.aload_n 0, 1) := by decide +kernel
theorem dX12_oath_60 : decode cX12_oath 60 = .ok (.iload_n 1, 1) := by decide +kernel
theorem dX12_oath_61 : decode cX12_oath 61 = .ok (.putfield 68, 3) := by decide +kernel
theorem dX12_oath_64 : decode cX12_oath 64 = .ok (.aload_n 0, 1) := by decide +kernel
theorem dX12_oath_65 : decode cX12_oath 65 = .ok (.iconst 0, 1) := by decide +kernel
theorem dX12_oath_66 : decode cX12_oath 66 = .ok (.putfield 71, 3) := by decide +kernel
theorem dX12_oath_69 : decode cX12_oath 69 = .ok (.aload_n 0, 1) := by decide +kernel
theorem dX12_oath_70 : decode cX12_oath 70 = .ok (.invokevirtual 118, 3) := by decide +kernel
theorem dX12_oath_73 : decode cX12_oath 73 = .ok (.aload_n 0, 1) := by decide +kernel
theorem dX12_oath_74 : decode cX12_oath 74 = .ok (.invokevirtual 174, 3) := by decide +kernel
theorem dX12_oath_77 : decode cX12_oath 77 = .ok (.aload_n 0, 1) := by decide +kernel
theorem dX12_oath_78 : decode cX12_oath 78 = .ok (.getfield 97, 3) := by decide +kernel
theorem dX12_oath_81 : decode cX12_oath 81 = .ok (.ifCond .ne 23, 3) := by decide +kernel
theorem dX12_oath_84 : decode cX12_oath 84 = .ok (.aload_n 0, 1) := by decide +kernel
theorem dX12_oath_85 : decode cX12_oath 85 = .ok (.getfield 87, 3) := by decide +kernel
theorem dX12_oath_88 : decode cX12_oath 88 = .ok (.bipush 59, 2) := by decide +kernel
theorem dX12_oath_90 : decode cX12_oath 90 = .ok (.if_icmp .ne 14, 3) := by decide +kernel
theorem dX12_oath_93 : decode cX12_oath 93 = .ok (.aload_n 0, 1) := by decide +kernel
theorem dX12_oath_94 : decode cX12_oath 94 = .ok (.invokevirtual 118, 3) := by decide +kernel
theorem dX12_oath_97 : decode cX12_oath 97 = .ok (.aload_n 0, 1) := by decide +kernel
theorem dX12_oath_98 : decode cX12_oath 98 = .ok (.invokevirtual 174, 3) := by decide +kernel
theorem dX12_oath_101 : decode cX12_oath 101 = .ok (.goto (-24), 3) := by decide +kernel
theorem dX12_oath_104 : decode cX12_oath 104 = .ok (.aload_n 0, 1) := by decide +kernel
theorem dX12_oath_105 : decode cX12_oath 105 = .ok (.getfield 97, 3) := by decide +kernel
theorem dX12_oath_108 : decode cX12_oath 108 = .ok (.ifCond .ne 19, 3) := by decide +kernel
theorem dX12_oath_111 : decode cX12_oath 111 = .ok (.aload_n 0, 1) := by decide +kernel
theorem dX12_oath_112 : decode cX12_oath 112 = .ok (.getfield 87, 3) := by decide +kernel
theorem dX12_oath_115 : decode cX12_oath 115 = .ok (.ifCond .eq 12, 3) := by decide +kernel
theorem dX12_oath_118 : decode cX12_oath 118 = .ok (.aload_n 0, 1) := by decide +kernel
theorem dX12_oath_119 : decode cX12_oath 119 = .ok (.iconst 1, 1) := by decide +kernel
theorem dX12_oath_120 : decode cX12_oath 120 = .ok (.aload_n 0, 1) := by decide +kernel
theorem dX12_oath_121 : decode cX12_oath 121 = .ok (.getfield 78, 3) := by decide +kernel
theorem dX12_oath_124 : decode cX12_oath 124 = .ok (.invokevirtual 124, 3) := by decide +kernel
theorem dX12_oath_127 : decode cX12_oath 127 = .ok (.aload_n 0, 1) := by decide +kernel
theorem dX12_oath_128 : decode cX12_oath 128 = .ok (.getfield 97, 3) := by decide +kernel
theorem dX12_oath_131 : decode cX12_oath 131 = .ok (.ifCond .ne 40, 3) := by decide +kernel
theorem dX12_oath_134 : decode cX12_oath 134 = .ok (.aload_n 0, 1) := by decide +kernel
theorem dX12_oath_135 : decode cX12_oath 135 = .ok (.getfield 23, 3) := by decide +kernel
theorem dX12_oath_138 : decode cX12_oath 138 = .ok (.iconst 0, 1) := by decide +kernel
theorem dX12_oath_139 : decode cX12_oath 139 = .ok (.iaload, 1) := by decide +kernel
theorem dX12_oath_140 : decode cX12_oath 140 = .ok (.ifCond .eq 21, 3) := by decide +kernel
theorem dX12_oath_143 : decode cX12_oath 143 = .ok (.aload_n 0, 1) := by decide +kernel
theorem dX12_oath_144 : decode cX12_oath 144 = .ok (.getfield 23, 3) := by decide +kernel
theorem dX12_oath_147 : decode cX12_oath 147 = .ok (.iconst 2, 1) := by decide +kernel
theorem dX12_oath_148 : decode cX12_oath 148 = .ok (.iaload, 1) := by decide +kernel
theorem dX12_oath_149 : decode cX12_oath 149 = .ok (.ifCond .eq 12, 3) := by decide +kernel
theorem dX12_oath_152 : decode cX12_oath 152 = .ok (.aload_n 0, 1) := by decide +kernel
theorem dX12_oath_153 : decode cX12_oath 153 = .ok (.getfield 23, 3) := by decide +kernel
theorem dX12_oath_156 : decode cX12_oath 156 = .ok (.iconst 4, 1) := by decide +kernel
theorem dX12_oath_157 : decode cX12_oath 157 = .ok (.iaload, 1) := by decide +kernel
theorem dX12_oath_158 : decode cX12_oath 158 = .ok (.ifCond .ne 13, 3) := by decide +kernel
theorem dX12_oath_161 : decode cX12_oath 161 = .ok (.aload_n 0, 1) := by decide +kernel
theorem dX12_oath_162 : decode cX12_oath 162 = .ok (.bipush 6, 2) := by decide +kernel
theorem dX12_oath_164 : decode cX12_oath 164 = .ok (.aload_n 0, 1) := by decide +kernel
theorem dX12_oath_165 : decode cX12_oath 165 = .ok (.getfield 78, 3) := by decide +kernel
theorem dX12_oath_168 : decode cX12_oath 168 = .ok (.invokevirtual 124, 3) := by decide +kernel
theorem dX12_oath_171 : decode cX12_oath 171 = .ok (.aload_n 0, 1) := by decide +kernel
theorem dX12_oath_172 : decode cX12_oath 172 = .ok (.getfield 97, 3) := by decide +kernel
theorem dX12_oath_175 : decode cX12_oath 175 = .ok (.ifCond .eq 9, 3) := by decide +kernel
theorem dX12_oath_178 : decode cX12_oath 178 = .ok (.aload_n 0, 1) := by decide +kernel
theorem dX12_oath_179 : decode cX12_oath 179 = .ok (.iconst 4, 1) := by decide +kernel
theorem dX12_oath_180 : decode cX12_oath 180 = .ok (.invokevirtual 171, 3) := by decide +kernel
theorem dX12_oath_183 : decode cX12_oath 183 = .ok (.ireturn, 1) := by decide +kernel
theorem dX12_oath_184 : decode cX12_oath 184 = .ok (.aload_n 0, 1) := by decide +kernel
theorem dX12_oath_185 : decode cX12_oath 185 = .ok (.getfield 23, 3) := by decide +kernel
theorem dX12_oath_188 : decode cX12_oath 188 = .ok (.iconst 0, 1) := by decide +kernel
theorem dX12_oath_189 : decode cX12_oath 189 = .ok (.aload_n 0, 1) := by decide +kernel
theorem dX12_oath_190 : decode cX12_oath 190 = .ok (.getfield 20, 3) := by decide +kernel
theorem dX12_oath_193 : decode cX12_oath 193 = .ok (.iconst 0, 1) := by decide +kernel
theorem dX12_oath_194 : decode cX12_oath 194 = .ok (.sipush 276, 3) := by decide +kernel
theorem dX12_oath_197 : decode cX12_oath 197 = .ok (.invokestatic 177, 3) := by decide +kernel
theorem dX12_oath_200 : decode cX12_oath 200 = .ok (.iconst 0, 1) := by decide +kernel
theorem dX12_oath_201 : decode cX12_oath 201 = .ok (.istore_n 2, 1) := by decide +kernel
theorem dX12_oath_202 : decode cX12_oath 202 = .ok (.iload_n 2, 1) := by decide +kernel
theorem dX12_oath_203 : decode cX12_oath 203 = .ok (.bipush 6, 2) := by decide +kernel
theorem dX12_oath_205 : decode cX12_oath 205 = .ok (.if_icmp .ge 16, 3) := by decide +kernel
theorem dX12_oath_208 : decode cX12_oath 208 = .ok (.aload_n 0, 1) := by decide +kernel
theorem dX12_oath_209 : decode cX12_oath 209 = .ok (.getfield 26, 3) := by decide +kernel
theorem dX12_oath_212 : decode cX12_oath 212 = .ok (.iload_n 2, 1) := by decide +kernel
theorem dX12_oath_213 : decode cX12_oath 213 = .ok (.iconst 0, 1) := by decide +kernel
theorem dX12_oath_214 : decode cX12_oath 214 = .ok (.iastore, 1) := by decide +kernel
theorem dX12_oath_215 : decode cX12_oath 215 = .ok (.iinc 2 1, 3) := by decide +kernel
theorem dX12_oath_218 : decode cX12_oath 218 = .ok (.goto (-16), 3) := by decide +kernel
theorem dX12_oath_221 : decode cX12_oath 221 = .ok (.aload_n 0, 1) := by decide +kernel
theorem dX12_oath_222 : decode cX12_oath 222 = .ok (.iconst 1, 1) := by decide +kernel
theorem dX12_oath_223 : decode cX12_oath 223 = .ok (.putfield 181, 3) := by decide +kernel
theorem dX12_oath_226 : decode cX12_oath 226 = .ok (.aload_n 0, 1) := by decide +kernel
theorem dX12_oath_227 : decode cX12_oath 227 = .ok (.iconst 0, 1) := by decide +kernel
theorem dX12_oath_228 : decode cX12_oath 228 = .ok (.putfield 184, 3) := by decide +kernel
theorem dX12_oath_231 : decode cX12_oath 231 = .ok (.aload_n 0, 1) := by decide +kernel
theorem dX12_oath_232 : decode cX12_oath 232 = .ok (.iconst 0, 1) := by decide +kernel
theorem dX12_oath_233 : decode cX12_oath 233 = .ok (.putfield 187, 3) := by decide +kernel
theorem dX12_oath_236 : decode cX12_oath 236 = .ok (.aload_n 0, 1) := by decide +kernel
theorem dX12_oath_237 : decode cX12_oath 237 = .ok (.getfield 20, 3) := by decide +kernel
theorem dX12_oath_240 : decode cX12_oath 240 = .ok (.iconst 4, 1) := by decide +kernel
theorem dX12_oath_241 : decode cX12_oath 241 = .ok (.iaload, 1) := by decide +kernel
theorem dX12_oath_242 : decode cX12_oath 242 = .ok (.ireturn, 1) := by decide +kernel
theorem dX12_begins_0 : decode cX12_begins 0 = .ok (.aload_n 0, 1) := by decide +kernel
theorem dX12_begins_1 : decode cX12_begins 1 = .ok (.aload_n 1, 1) := by decide +kernel
theorem dX12_begins_2 : decode cX12_begins 2 = .ok (.invokevirtual 114, 3) := by decide +kernel
theorem dX12_begins_5 : decode cX12_begins 5 = .ok (.ifCond .ne 5, 3) := by decide +kernel
theorem dX12_begins_8 : decode cX12_begins 8 = .ok (.iconst 0, 1) := by decide +kernel
theorem dX12_begins_9 : decode cX12_begins 9 = .ok (.ireturn, 1) := by decide +kernel
theorem dX12_begins_10 : decode cX12_begins 10 = .ok (.iload_n 2, 1) := by decide +kernel
theorem dX12_begins_11 : decode cX12_begins 11 = .ok (.ifCond .ne 12, 3) := by decide +kernel
theorem dX12_begins_14 : decode cX12_begins 14 = .ok (.aload_n 0, 1) := by decide +kernel
theorem dX12_begins_15 : decode cX12_begins 15 = .ok (.iconst 5, 1) := by decide +kernel
theorem dX12_begins_16 : decode cX12_begins 16 = .ok (.aload_n 0, 1) := by decide +kernel
theorem dX12_begins_17 : decode cX12_begins 17 = .ok (.getfield 78, 3) := by decide +kernel
theorem dX12_begins_20 : decode cX12_begins 20 = .ok (.invokevirtual 124, 3) := by decide +kernel
theorem dX12_begins_23 : decode cX12_begins 23 = .ok (.aload_n 0, 1) := by decide +kernel
theorem dX12_begins_24 : decode cX12_begins 24 = .ok (.getfield 23, 3) := by decide +kernel
theorem dX12_begins_27 : decode cX12_begins 27 = .ok (.iconst 0, 1) := by decide +kernel
theorem dX12_begins_28 : decode cX12_begins 28 = .ok (.iaload, 1) := by decide +kernel
theorem dX12_begins_29 : decode cX12_begins 29 = .ok (.ifCond .ne 13, 3) := by decide +kernel
theorem dX12_begins_32 : decode cX12_begins 32 = .ok (.aload_n 0, 1) := by decide +kernel
theorem dX12_begins_33 : decode cX12_begins 33 = .ok (.bipush 6, 2) := by decide +kernel
theorem dX12_begins_35 : decode cX12_begins 35 = .ok (.aload_n 0, 1) := by decide +kernel
theorem dX12_begins_36 : decode cX12_begins 36 = .ok (.getfield 78, 3) := by decide +kernel
theorem dX12_begins_39 : decode cX12_begins 39 = .ok (.invokevirtual 124, 3) := by decide +kernel
theorem dX12_begins_42 : decode cX12_begins 42 = .ok (.aload_n 0, 1) := by decide +kernel
theorem dX12_begins_43 : decode cX12_begins 43 = .ok (.getfield 97, 3) := by decide +kernel
theorem dX12_begins_46 : decode cX12_begins 46 = .ok (.ifCond .ne 7, 3) := by decide +kernel
theorem dX12_begins_49 : decode cX12_begins 49 = .ok (.aload_n 0, 1) := by decide +kernel
theorem dX12_begins_50 : decode cX12_begins 50 = .ok (.invokevirtual 118, 3) := by decide +kernel
theorem dX12_begins_53 : decode cX12_begins 53 = .ok (.iconst 1, 1) := by decide +kernel
theorem dX12_begins_54 : decode cX12_begins 54 = .ok (.ireturn, 1) := by decide +kernel
theorem dX12_readLine_0 : decode cX12_readLine 0 = .ok (.aload_n 0, 1) := by decide +kernel
theorem dX12_readLine_1 : decode cX12_readLine 1 = .ok (.ldc 128, 2) := by decide +kernel
theorem dX12_readLine_3 : decode cX12_readLine 3 = .ok (.invokevirtual 114, 3) := by decide +kernel
theorem dX12_readLine_6 : decode cX12_readLine 6 = .ok (.ifCond .eq 10, 3) := by decide +kernel
theorem dX12_readLine_9 : decode cX12_readLine 9 = .ok (.aload_n 0, 1) := by decide +kernel
theorem dX12_readLine_10 : decode cX12_readLine 10 = .ok (.invokevirtual 190, 3) := by decide +kernel
theorem dX12_readLine_13 : decode cX12_readLine 13 = .ok (.goto 237, 3) := by decide +kernel
theorem dX12_readLine_16 : decode cX12_readLine 16 = .ok (.aload_n 0, 1) := by decide +kernel
theorem dX12_readLine_17 : decode cX12_readLine 17 = .ok (.ldc 130, 2) := by decide +kernel
theorem dX12_readLine_19 : decode cX12_readLine 19 = .ok (.aload_n 0, 1) := by decide +kernel
theorem dX12_readLine_20 : decode cX12_readLine 20 = .ok (.getfield 23, 3) := by decide +kernel
theorem dX12_readLine_23 : decode cX12_readLine 23 = .ok (.iconst 2, 1) := by decide +kernel
theorem dX12_readLine_24 : decode cX12_readLine 24 = .ok (.iaload, 1) := by decide +kernel
theorem dX12_readLine_25 : decode cX12_readLine 25 = .ok (.bipush 6, 2) := by decide +kernel
theorem dX12_readLine_27 : decode cX12_readLine 27 = .ok (.if_icmp .ge 7, 3) := by decide +kernel
theorem dX12_readLine_30 : decode cX12_readLine 30 = .ok (.iconst 1, 1) := by decide +kernel
theorem dX12_readLine_31 : decode cX12_readLine 31 = .ok (.goto 4, 3) := by decide +kernel
theorem dX12_readLine_34 : decode cX12_readLine 34 = .ok (.iconst 0, 1) := by decide +kernel
theorem dX12_readLine_35 : decode cX12_readLine 35 = .ok (.invokevirtual 193, 3) := by decide +kernel
theorem dX12_readLine_38 : decode cX12_readLine 38 = .ok (.ifCond .eq 10, 3) := by decide +kernel
theorem dX12_readLine_41 : decode cX12_readLine 41 = .ok (.aload_n 0, 1) := by decide +kernel
theorem dX12_readLine_42 : decode cX12_readLine 42 = .ok (.invokevirtual 197, 3) := by decide +kernel
theorem dX12_readLine_45 : decode cX12_readLine 45 = .ok (.goto 205, 3) := by decide +kernel
theorem dX12_readLine_48 : decode cX12_readLine 48 = .ok (.aload_n 0, 1) := by decide +kernel
theorem dX12_readLine_49 : decode cX12_readLine 49 = .ok (.ldc 132, 2) := by decide +kernel
theorem dX12_readLine_51 : decode cX12_readLine 51 = .ok (.aload_n 0, 1) := by decide +kernel
theorem dX12_readLine_52 : decode cX12_readLine 52 = .ok (.getfield 23, 3) := by decide +kernel
theorem dX12_readLine_55 : decode cX12_readLine 55 = .ok (.iconst 3, 1) := by decide +kernel
theorem dX12_readLine_56 : decode cX12_readLine 56 = .ok (.iaload, 1) := by decide +kernel
theorem dX12_readLine_57 : decode cX12_readLine 57 = .ok (.bipush 10, 2) := by decide +kernel
theorem dX12_readLine_59 : decode cX12_readLine 59 = .ok (.if_icmp .ge 7, 3) := by decide +kernel
theorem dX12_readLine_62 : decode cX12_readLine 62 = .ok (.iconst 1, 1) := by decide +kernel
theorem dX12_readLine_63 : decode cX12_readLine 63 = .ok (.goto 4, 3) := by decide +kernel
theorem dX12_readLine_66 : decode cX12_readLine 66 = .ok (.iconst 0, 1) := by decide +kernel
theorem dX12_readLine_67 : decode cX12_readLine 67 = .ok (.invokevirtual 193, 3) := by decide +kernel
theorem dX12_readLine_70 : decode cX12_readLine 70 = .ok (.ifCond .eq 10, 3) := by decide +kernel
theorem dX12_readLine_73 : decode cX12_readLine 73 = .ok (.aload_n 0, 1) := by decide +kernel
theorem dX12_readLine_74 : decode cX12_readLine 74 = .ok (.invokevirtual 200, 3) := by decide +kernel
theorem dX12_readLine_77 : decode cX12_readLine 77 = .ok (.goto 173, 3) := by decide +kernel
theorem dX12_readLine_80 : decode cX12_readLine 80 = .ok (.aload_n 0, 1) := by decide +kernel
theorem dX12_readLine_81 : decode cX12_readLine 81 = .ok (.ldc 134, 2) := by decide +kernel
theorem dX12_readLine_83 : decode cX12_readLine 83 = .ok (.aload_n 0, 1) := by decide +kernel
theorem dX12_readLine_84 : decode cX12_readLine 84 = .ok (.getfield 23, 3) := by decide +kernel
theorem dX12_readLine_87 : decode cX12_readLine 87 = .ok (.iconst 4, 1) := by decide +kernel
theorem dX12_readLine_88 : decode cX12_readLine 88 = .ok (.iaload, 1) := by decide +kernel
theorem dX12_readLine_89 : decode cX12_readLine 89 = .ok (.bipush 8, 2) := by decide +kernel
theorem dX12_readLine_91 : decode cX12_readLine 91 = .ok (.if_icmp .ge 7, 3) := by decide +kernel
theorem dX12_readLine_94 : decode cX12_readLine 94 = .ok (.iconst 1, 1) := by decide +kernel
theorem dX12_readLine_95 : decode cX12_readLine 95 = .ok (.goto 4, 3) := by decide +kernel
theorem dX12_readLine_98 : decode cX12_readLine 98 = .ok (.iconst 0, 1) := by decide +kernel
theorem dX12_readLine_99 : decode cX12_readLine 99 = .ok (.invokevirtual 193, 3) := by decide +kernel
theorem dX12_readLine_102 : decode cX12_readLine 102 = .ok (.ifCond .eq 10, 3) := by decide +kernel
theorem dX12_readLine_105 : decode cX12_readLine 105 = .ok (.aload_n 0, 1) := by decide +kernel
theorem dX12_readLine_106 : decode cX12_readLine 106 = .ok (.invokevirtual 203, 3) := by decide +kernel
theorem dX12_readLine_109 : decode cX12_readLine 109 = .ok (.goto 141, 3) := by decide +kernel
theorem dX12_readLine_112 : decode cX12_readLine 112 = .ok (.aload_n 0, 1) := by decide +kernel
theorem dX12_readLine_113 : decode cX12_readLine 113 = .ok (.ldc 136, 2) := by decide +kernel
theorem dX12_readLine_115 : decode cX12_readLine 115 = .ok (.aload_n 0, 1) := by decide +kernel
theorem dX12_readLine_116 : decode cX12_readLine 116 = .ok (.getfield 23, 3) := by decide +kernel
theorem dX12_readLine_119 : decode cX12_readLine 119 = .ok (.iconst 5, 1) := by decide +kernel
theorem dX12_readLine_120 : decode cX12_readLine 120 = .ok (.iaload, 1) := by decide +kernel
theorem dX12_readLine_121 : decode cX12_readLine 121 = .ok (.bipush 8, 2) := by decide +kernel
theorem dX12_readLine_123 : decode cX12_readLine 123 = .ok (.if_icmp .ge 7, 3) := by decide +kernel
theorem dX12_readLine_126 : decode cX12_readLine 126 = .ok (.iconst 1, 1) := by decide +kernel
theorem dX12_readLine_127 : decode cX12_readLine 127 = .ok (.goto 4, 3) := by decide +kernel
theorem dX12_readLine_130 : decode cX12_readLine 130 = .ok (.iconst 0, 1) := by decide +kernel
theorem dX12_readLine_131 : decode cX12_readLine 131 = .ok (.invokevirtual 193, 3) := by decide +kernel
theorem dX12_readLine_134 : decode cX12_readLine 134 = .ok (.ifCond .eq 10, 3) := by decide +kernel
theorem dX12_readLine_137 : decode cX12_readLine 137 = .ok (.aload_n 0, 1) := by decide +kernel
theorem dX12_readLine_138 : decode cX12_readLine 138 = .ok (.invokevirtual 206, 3) := by decide +kernel
theorem dX12_readLine_141 : decode cX12_readLine 141 = .ok (.goto 109, 3) := by decide +kernel
theorem dX12_readLine_144 : decode cX12_readLine 144 = .ok (.aload_n 0, 1) := by decide +kernel
theorem dX12_readLine_145 : decode cX12_readLine 145 = .ok (.ldc 138, 2) := by decide +kernel
theorem dX12_readLine_147 : decode cX12_readLine 147 = .ok (.aload_n 0, 1) := by decide +kernel
theorem dX12_readLine_148 : decode cX12_readLine 148 = .ok (.getfield 23, 3) := by decide +kernel
theorem dX12_readLine_151 : decode cX12_readLine 151 = .ok (.bipush 6, 2) := by decide +kernel
theorem dX12_readLine_153 : decode cX12_readLine 153 = .ok (.iaload, 1) := by decide +kernel
theorem dX12_readLine_154 : decode cX12_readLine 154 = .ok (.bipush 6, 2) := by decide +kernel
theorem dX12_readLine_156 : decode cX12_readLine 156 = .ok (.if_icmp .ge 7, 3) := by decide +kernel
theorem dX12_readLine_159 : decode cX12_readLine 159 = .ok (.iconst 1, 1) := by decide +kernel
theorem dX12_readLine_160 : decode cX12_readLine 160 = .ok (.goto 4, 3) := by decide +kernel
theorem dX12_readLine_163 : decode cX12_readLine 163 = .ok (.iconst 0, 1) := by decide +kernel
theorem dX12_readLine_164 : decode cX12_readLine 164 = .ok (.invokevirtual 193, 3) := by decide +kernel
theorem dX12_readLine_167 : decode cX12_readLine 167 = .ok (.ifCond .eq 10, 3) := by decide +kernel
theorem dX12_readLine_170 : decode cX12_readLine 170 = .ok (.aload_n 0, 1) := by decide +kernel
theorem dX12_readLine_171 : decode cX12_readLine 171 = .ok (.invokevirtual 209, 3) := by decide +kernel
theorem dX12_readLine_174 : decode cX12_readLine 174 = .ok (.goto 76, 3) := by decide +kernel
theorem dX12_readLine_177 : decode cX12_readLine 177 = .ok (.aload_n 0, 1) := by decide +kernel
theorem dX12_readLine_178 : decode cX12_readLine 178 = .ok (.ldc 140, 2) := by decide +kernel
theorem dX12_readLine_180 : decode cX12_readLine 180 = .ok (.aload_n 0, 1) := by decide +kernel
theorem dX12_readLine_181 : decode cX12_readLine 181 = .ok (.getfield 23, 3) := by decide +kernel
theorem dX12_readLine_184 : decode cX12_readLine 184 = .ok (.bipush 7, 2) := by decide +kernel
theorem dX12_readLine_186 : decode cX12_readLine 186 = .ok (.iaload, 1) := by decide +kernel
theorem dX12_readLine_187 : decode cX12_readLine 187 = .ok (.iconst 5, 1) := by decide +kernel
theorem dX12_readLine_188 : decode cX12_readLine 188 = .ok (.if_icmp .ge 7, 3) := by decide +kernel
theorem dX12_readLine_191 : decode cX12_readLine 191 = .ok (.iconst 1, 1) := by decide +kernel
theorem dX12_readLine_192 : decode cX12_readLine 192 = .ok (.goto 4, 3) := by decide +kernel
theorem dX12_readLine_195 : decode cX12_readLine 195 = .ok (.iconst 0, 1) := by decide +kernel
theorem dX12_readLine_196 : decode cX12_readLine 196 = .ok (.invokevirtual 193, 3) := by decide +kernel
theorem dX12_readLine_199 : decode cX12_readLine 199 = .ok (.ifCond .eq 10, 3) := by decide +kernel
theorem dX12_readLine_202 : decode cX12_readLine 202 = .ok (.aload_n 0, 1) := by decide +kernel
theorem dX12_readLine_203 : decode cX12_readLine 203 = .ok (.invokevirtual 212, 3) := by decide +kernel
theorem dX12_readLine_206 : decode cX12_readLine 206 = .ok (.goto 44, 3) := by decide +kernel
theorem dX12_readLine_209 : decode cX12_readLine 209 = .ok (.aload_n 0, 1) := by decide +kernel
theorem dX12_readLine_210 : decode cX12_readLine 210 = .ok (.ldc 142, 2) := by decide +kernel
theorem dX12_readLine_212 : decode cX12_readLine 212 = .ok (.aload_n 0, 1) := by decide +kernel
theorem dX12_readLine_213 : decode cX12_readLine 213 = .ok (.getfield 23, 3) := by decide +kernel
theorem dX12_readLine_216 : decode cX12_readLine 216 = .ok (.bipush 8, 2) := by decide +kernel
theorem dX12_readLine_218 : decode cX12_readLine 218 = .ok (.iaload, 1) := by decide +kernel
theorem dX12_readLine_219 : decode cX12_readLine 219 = .ok (.iconst 4, 1) := by decide +kernel
theorem dX12_readLine_220 : decode cX12_readLine 220 = .ok (.if_icmp .ge 7, 3) := by decide +kernel
theorem dX12_readLine_223 : decode cX12_readLine 223 = .ok (.iconst 1, 1) := by decide +kernel
theorem dX12_readLine_224 : decode cX12_readLine 224 = .ok (.goto 4, 3) := by decide +kernel
theorem dX12_readLine_227 : decode cX12_readLine 227 = .ok (.iconst 0, 1) := by decide +kernel
theorem dX12_readLine_228 : decode cX12_readLine 228 = .ok (.invokevirtual 193, 3) := by decide +kernel
theorem dX12_readLine_231 : decode cX12_readLine 231 = .ok (.ifCond .eq 10, 3) := by decide +kernel
theorem dX12_readLine_234 : decode cX12_readLine 234 = .ok (.aload_n 0, 1) := by decide +kernel
theorem dX12_readLine_235 : decode cX12_readLine 235 = .ok (.invokevirtual 215, 3) := by decide +kernel
theorem dX12_readLine_238 : decode cX12_readLine 238 = .ok (.goto 12, 3) := by decide +kernel
theorem dX12_readLine_241 : decode cX12_readLine 241 = .ok (.aload_n 0, 1) := by decide +kernel
theorem dX12_readLine_242 : decode cX12_readLine 242 = .ok (.iconst 1, 1) := by decide +kernel
theorem dX12_readLine_243 : decode cX12_readLine 243 = .ok (.aload_n 0, 1) := by decide +kernel
theorem dX12_readLine_244 : decode cX12_readLine 244 = .ok (.getfield 78, 3) := by decide +kernel
theorem dX12_readLine_247 : decode cX12_readLine 247 = .ok (.invokevirtual 124, 3) := by decide +kernel
theorem dX12_readLine_250 : decode cX12_readLine 250 = .ok (.return_, 1) := by decide +kernel
theorem dX12_oathLine_0 : decode cX12_oathLine 0 = .ok (.aload_n 0, 1) := by decide +kernel
theorem dX12_oathLine_1 : decode cX12_oathLine 1 = .ok (.getfield 23, 3) := by decide +kernel
theorem dX12_oathLine_4 : decode cX12_oathLine 4 = .ok (.iconst 0, 1) := by decide +kernel
theorem dX12_oathLine_5 : decode cX12_oathLine 5 = .ok (.iaload, 1) := by decide +kernel
theorem dX12_oathLine_6 : decode cX12_oathLine 6 = .ok (.ifCond .le 12, 3) := by decide +kernel
theorem dX12_oathLine_9 : decode cX12_oathLine 9 = .ok (.aload_n 0, 1) := by decide +kernel
theorem dX12_oathLine_10 : decode cX12_oathLine 10 = .ok (.iconst 3, 1) := by decide +kernel
theorem dX12_oathLine_11 : decode cX12_oathLine 11 = .ok (.aload_n 0, 1) := by decide +kernel
theorem dX12_oathLine_12 : decode cX12_oathLine 12 = .ok (.getfield 78, 3) := by decide +kernel
theorem dX12_oathLine_15 : decode cX12_oathLine 15 = .ok (.invokevirtual 124, 3) := by decide +kernel
theorem dX12_oathLine_18 : decode cX12_oathLine 18 = .ok (.aload_n 0, 1) := by decide +kernel
theorem dX12_oathLine_19 : decode cX12_oathLine 19 = .ok (.getfield 97, 3) := by decide +kernel
theorem dX12_oathLine_22 : decode cX12_oathLine 22 = .ok (.ifCond .eq 4, 3) := by decide +kernel
theorem dX12_oathLine_25 : decode cX12_oathLine 25 = .ok (.return_, 1) := by decide +kernel
theorem dX12_oathLine_26 : decode cX12_oathLine 26 = .ok (.aload_n 0, 1) := by decide +kernel
theorem dX12_oathLine_27 : decode cX12_oathLine 27 = .ok (.invokevirtual 118, 3) := by decide +kernel
theorem dX12_oathLine_30 : decode cX12_oathLine 30 = .ok (.aload_n 0, 1) := by decide +kernel
theorem dX12_oathLine_31 : decode cX12_oathLine 31 = .ok (.ldc 218, 2) := by decide +kernel
theorem dX12_oathLine_33 : decode cX12_oathLine 33 = .ok (.iconst 5, 1) := by decide +kernel
theorem dX12_oathLine_34 : decode cX12_oathLine 34 = .ok (.bipush 9, 2) := by decide +kernel
theorem dX12_oathLine_36 : decode cX12_oathLine 36 = .ok (.invokevirtual 220, 3) := by decide +kernel
theorem dX12_oathLine_39 : decode cX12_oathLine 39 = .ok (.istore_n 1, 1) := by decide +kernel
theorem dX12_oathLine_40 : decode cX12_oathLine 40 = .ok (.aload_n 0, 1) := by decide +kernel
theorem dX12_oathLine_41 : decode cX12_oathLine 41 = .ok (.getfield 23, 3) := by decide +kernel
theorem dX12_oathLine_44 : decode cX12_oathLine 44 = .ok (.iconst 1, 1) := by decide +kernel
theorem dX12_oathLine_45 : decode cX12_oathLine 45 = .ok (.aload_n 0, 1) := by decide +kernel
theorem dX12_oathLine_46 : decode cX12_oathLine 46 = .ok (.ldc 224, 2) := by decide +kernel
theorem dX12_oathLine_48 : decode cX12_oathLine 48 = .ok (.iconst 1, 1) := by decide +kernel
theorem dX12_oathLine_49 : decode cX12_oathLine 49 = .ok (.iconst 3, 1) := by decide +kernel
theorem dX12_oathLine_50 : decode cX12_oathLine 50 = .ok (.invokevirtual 220, 3) := by decide +kernel
theorem dX12_oathLine_53 : decode cX12_oathLine 53 = .ok (.iastore, 1) := by decide +kernel
theorem dX12_oathLine_54 : decode cX12_oathLine 54 = .ok (.aload_n 0, 1) := by decide +kernel
theorem dX12_oathLine_55 : decode cX12_oathLine 55 = .ok (.getfield 97, 3) := by decide +kernel
theorem dX12_oathLine_58 : decode cX12_oathLine 58 = .ok (.ifCond .ne 10, 3) := by decide +kernel
theorem dX12_oathLine_61 : decode cX12_oathLine 61 = .ok (.aload_n 0, 1) := by decide +kernel
theorem dX12_oathLine_62 : decode cX12_oathLine 62 = .ok (.getfield 23, 3) := by decide +kernel
theorem dX12_oathLine_65 : decode cX12_oathLine 65 = .ok (.iconst 0, 1) := by decide +kernel
theorem dX12_oathLine_66 : decode cX12_oathLine 66 = .ok (.iload_n 1, 1) := by decide +kernel
theorem dX12_oathLine_67 : decode cX12_oathLine 67 = .ok (.iastore, 1) := by decide +kernel
theorem dX12_oathLine_68 : decode cX12_oathLine 68 = .ok (.return_, 1) := by decide +kernel
theorem dX12_harbourLine_0 : decode cX12_harbourLine 0 = .ok (.aload_n 0, 1) := by decide +kernel
theorem dX12_harbourLine_1 : decode cX12_harbourLine 1 = .ok (.getfield 97, 3) := by decide +kernel
theorem dX12_harbourLine_4 : decode cX12_harbourLine 4 = .ok (.ifCond .eq 4, 3) := by decide +kernel
theorem dX12_harbourLine_7 : decode cX12_harbourLine 7 = .ok (.return_, 1) := by decide +kernel
theorem dX12_harbourLine_8 : decode cX12_harbourLine 8 = .ok (.bipush 9, 2) := by decide +kernel
theorem dX12_harbourLine_10 : decode cX12_harbourLine 10 = .ok (.iconst 3, 1) := by decide +kernel
theorem dX12_harbourLine_11 : decode cX12_harbourLine 11 = .ok (.aload_n 0, 1) := by decide +kernel
theorem dX12_harbourLine_12 : decode cX12_harbourLine 12 = .ok (.getfield 23, 3) := by decide +kernel
theorem dX12_harbourLine_15 : decode cX12_harbourLine 15 = .ok (.iconst 2, 1) := by decide +kernel
theorem dX12_harbourLine_16 : decode cX12_harbourLine 16 = .ok (.iaload, 1) := by decide +kernel
theorem dX12_harbourLine_17 : decode cX12_harbourLine 17 = .ok (.imul, 1) := by decide +kernel
theorem dX12_harbourLine_18 : decode cX12_harbourLine 18 = .ok (.iadd, 1) := by decide +kernel
theorem dX12_harbourLine_19 : decode cX12_harbourLine 19 = .ok (.istore_n 1, 1) := by decide +kernel
theorem dX12_harbourLine_20 : decode cX12_harbourLine 20 = .ok (.aload_n 0, 1) := by decide +kernel
theorem dX12_harbourLine_21 : decode cX12_harbourLine 21 = .ok (.aload_n 0, 1) := by decide +kernel
theorem dX12_harbourLine_22 : decode cX12_harbourLine 22 = .ok (.getfield 23, 3) := by decide +kernel
theorem dX12_harbourLine_25 : decode cX12_harbourLine 25 = .ok (.iconst 2, 1) := by decide +kernel
theorem dX12_harbourLine_26 : decode cX12_harbourLine 26 = .ok (.iaload, 1) := by decide +kernel
theorem dX12_harbourLine_27 : decode cX12_harbourLine 27 = .ok (.invokevirtual 226, 3) := by decide +kernel
theorem dX12_harbourLine_30 : decode cX12_harbourLine 30 = .ok (.aload_n 0, 1) := by decide +kernel
theorem dX12_harbourLine_31 : decode cX12_harbourLine 31 = .ok (.getfield 23, 3) := by decide +kernel
theorem dX12_harbourLine_34 : decode cX12_harbourLine 34 = .ok (.iload_n 1, 1) := by decide +kernel
theorem dX12_harbourLine_35 : decode cX12_harbourLine 35 = .ok (.aload_n 0, 1) := by decide +kernel
theorem dX12_harbourLine_36 : decode cX12_harbourLine 36 = .ok (.ldc 230, 2) := by decide +kernel
theorem dX12_harbourLine_38 : decode cX12_harbourLine 38 = .ok (.iconst 0, 1) := by decide +kernel
theorem dX12_harbourLine_39 : decode cX12_harbourLine 39 = .ok (.bipush 100, 2) := by decide +kernel
theorem dX12_harbourLine_41 : decode cX12_harbourLine 41 = .ok (.invokevirtual 220, 3) := by decide +kernel
theorem dX12_harbourLine_44 : decode cX12_harbourLine 44 = .ok (.iastore, 1) := by decide +kernel
theorem dX12_harbourLine_45 : decode cX12_harbourLine 45 = .ok (.aload_n 0, 1) := by decide +kernel
theorem dX12_harbourLine_46 : decode cX12_harbourLine 46 = .ok (.getfield 23, 3) := by decide +kernel
theorem dX12_harbourLine_49 : decode cX12_harbourLine 49 = .ok (.iload_n 1, 1) := by decide +kernel
theorem dX12_harbourLine_50 : decode cX12_harbourLine 50 = .ok (.iconst 1, 1) := by decide +kernel
theorem dX12_harbourLine_51 : decode cX12_harbourLine 51 = .ok (.iadd, 1) := by decide +kernel
theorem dX12_harbourLine_52 : decode cX12_harbourLine 52 = .ok (.aload_n 0, 1) := by decide +kernel
theorem dX12_harbourLine_53 : decode cX12_harbourLine 53 = .ok (.ldc 232, 2) := by decide +kernel
theorem dX12_harbourLine_55 : decode cX12_harbourLine 55 = .ok (.iconst 0, 1) := by decide +kernel
theorem dX12_harbourLine_56 : decode cX12_harbourLine 56 = .ok (.bipush 99, 2) := by decide +kernel
theorem dX12_harbourLine_58 : decode cX12_harbourLine 58 = .ok (.invokevirtual 220, 3) := by decide +kernel
theorem dX12_harbourLine_61 : decode cX12_harbourLine 61 = .ok (.iastore, 1) := by decide +kernel
theorem dX12_harbourLine_62 : decode cX12_harbourLine 62 = .ok (.aload_n 0, 1) := by decide +kernel
theorem dX12_harbourLine_63 : decode cX12_harbourLine 63 = .ok (.getfield 97, 3) := by decide +kernel
theorem dX12_harbourLine_66 : decode cX12_harbourLine 66 = .ok (.ifCond .ne 13, 3) := by decide +kernel
theorem dX12_harbourLine_69 : decode cX12_harbourLine 69 = .ok (.aload_n 0, 1) := by decide +kernel
theorem dX12_harbourLine_70 : decode cX12_harbourLine 70 = .ok (.getfield 23, 3) := by decide +kernel
theorem dX12_harbourLine_73 : decode cX12_harbourLine 73 = .ok (.iconst 2, 1) := by decide +kernel
theorem dX12_harbourLine_74 : decode cX12_harbourLine 74 = .ok (.dup2, 1) := by decide +kernel
theorem dX12_harbourLine_75 : decode cX12_harbourLine 75 = .ok (.iaload, 1) := by decide +kernel
theorem dX12_harbourLine_76 : decode cX12_harbourLine 76 = .ok (.iconst 1, 1) := by decide +kernel
theorem dX12_harbourLine_77 : decode cX12_harbourLine 77 = .ok (.iadd, 1) := by decide +kernel
theorem dX12_harbourLine_78 : decode cX12_harbourLine 78 = .ok (.iastore, 1) := by decide +kernel
theorem dX12_harbourLine_79 : decode cX12_harbourLine 79 = .ok (.return_, 1) := by decide +kernel
theorem dX12_seaLine_0 : decode cX12_seaLine 0 = .ok (.aload_n 0, 1) := by decide +kernel
theorem dX12_seaLine_1 : decode cX12_seaLine 1 = .ok (.getfield 97, 3) := by decide +kernel
theorem dX12_seaLine_4 : decode cX12_seaLine 4 = .ok (.ifCond .eq 4, 3) := by decide +kernel
theorem dX12_seaLine_7 : decode cX12_seaLine 7 = .ok (.return_, 1) := by decide +kernel
theorem dX12_seaLine_8 : decode cX12_seaLine 8 = .ok (.aload_n 0, 1) := by decide +kernel
theorem dX12_seaLine_9 : decode cX12_seaLine 9 = .ok (.invokevirtual 234, 3) := by decide +kernel
theorem dX12_seaLine_12 : decode cX12_seaLine 12 = .ok (.istore_n 1, 1) := by decide +kernel
theorem dX12_seaLine_13 : decode cX12_seaLine 13 = .ok (.aload_n 0, 1) := by decide +kernel
theorem dX12_seaLine_14 : decode cX12_seaLine 14 = .ok (.invokevirtual 158, 3) := by decide +kernel
theorem dX12_seaLine_17 : decode cX12_seaLine 17 = .ok (.istore_n 2, 1) := by decide +kernel
theorem dX12_seaLine_18 : decode cX12_seaLine 18 = .ok (.aload_n 0, 1) := by decide +kernel
theorem dX12_seaLine_19 : decode cX12_seaLine 19 = .ok (.getfield 97, 3) := by decide +kernel
theorem dX12_seaLine_22 : decode cX12_seaLine 22 = .ok (.ifCond .ne 37, 3) := by decide +kernel
theorem dX12_seaLine_25 : decode cX12_seaLine 25 = .ok (.iload_n 1, 1) := by decide +kernel
theorem dX12_seaLine_26 : decode cX12_seaLine 26 = .ok (.iload_n 2, 1) := by decide +kernel
theorem dX12_seaLine_27 : decode cX12_seaLine 27 = .ok (.if_icmp .eq 23, 3) := by decide +kernel
theorem dX12_seaLine_30 : decode cX12_seaLine 30 = .ok (.aload_n 0, 1) := by decide +kernel
theorem dX12_seaLine_31 : decode cX12_seaLine 31 = .ok (.getfield 23, 3) := by decide +kernel
theorem dX12_seaLine_34 : decode cX12_seaLine 34 = .ok (.bipush 9, 2) := by decide +kernel
theorem dX12_seaLine_36 : decode cX12_seaLine 36 = .ok (.iconst 3, 1) := by decide +kernel
theorem dX12_seaLine_37 : decode cX12_seaLine 37 = .ok (.iload_n 1, 1) := by decide +kernel
theorem dX12_seaLine_38 : decode cX12_seaLine 38 = .ok (.imul, 1) := by decide +kernel
theorem dX12_seaLine_39 : decode cX12_seaLine 39 = .ok (.iadd, 1) := by decide +kernel
theorem dX12_seaLine_40 : decode cX12_seaLine 40 = .ok (.iconst 2, 1) := by decide +kernel
theorem dX12_seaLine_41 : decode cX12_seaLine 41 = .ok (.iadd, 1) := by decide +kernel
theorem dX12_seaLine_42 : decode cX12_seaLine 42 = .ok (.iaload, 1) := by decide +kernel
theorem dX12_seaLine_43 : decode cX12_seaLine 43 = .ok (.iload_n 2, 1) := by decide +kernel
theorem dX12_seaLine_44 : decode cX12_seaLine 44 = .ok (.invokestatic 237, 3) := by decide +kernel
theorem dX12_seaLine_47 : decode cX12_seaLine 47 = .ok (.ifCond .eq 12, 3) := by decide +kernel
theorem dX12_seaLine_50 : decode cX12_seaLine 50 = .ok (.aload_n 0, 1) := by decide +kernel
theorem dX12_seaLine_51 : decode cX12_seaLine 51 = .ok (.iconst 3, 1) := by decide +kernel
theorem dX12_seaLine_52 : decode cX12_seaLine 52 = .ok (.aload_n 0, 1) := by decide +kernel
theorem dX12_seaLine_53 : decode cX12_seaLine 53 = .ok (.getfield 78, 3) := by decide +kernel
theorem dX12_seaLine_56 : decode cX12_seaLine 56 = .ok (.invokevirtual 124, 3) := by decide +kernel
theorem dX12_seaLine_59 : decode cX12_seaLine 59 = .ok (.aload_n 0, 1) := by decide +kernel
theorem dX12_seaLine_60 : decode cX12_seaLine 60 = .ok (.getfield 97, 3) := by decide +kernel
theorem dX12_seaLine_63 : decode cX12_seaLine 63 = .ok (.ifCond .eq 4, 3) := by decide +kernel
theorem dX12_seaLine_66 : decode cX12_seaLine 66 = .ok (.return_, 1) := by decide +kernel
theorem dX12_seaLine_67 : decode cX12_seaLine 67 = .ok (.aload_n 0, 1) := by decide +kernel
theorem dX12_seaLine_68 : decode cX12_seaLine 68 = .ok (.invokevirtual 118, 3) := by decide +kernel
theorem dX12_seaLine_71 : decode cX12_seaLine 71 = .ok (.aload_n 0, 1) := by decide +kernel
theorem dX12_seaLine_72 : decode cX12_seaLine 72 = .ok (.getfield 23, 3) := by decide +kernel
theorem dX12_seaLine_75 : decode cX12_seaLine 75 = .ok (.bipush 9, 2) := by decide +kernel
theorem dX12_seaLine_77 : decode cX12_seaLine 77 = .ok (.iconst 3, 1) := by decide +kernel
theorem dX12_seaLine_78 : decode cX12_seaLine 78 = .ok (.iload_n 1, 1) := by decide +kernel
theorem dX12_seaLine_79 : decode cX12_seaLine 79 = .ok (.imul, 1) := by decide +kernel
theorem dX12_seaLine_80 : decode cX12_seaLine 80 = .ok (.iadd, 1) := by decide +kernel
theorem dX12_seaLine_81 : decode cX12_seaLine 81 = .ok (.iconst 2, 1) := by decide +kernel
theorem dX12_seaLine_82 : decode cX12_seaLine 82 = .ok (.iadd, 1) := by decide +kernel
theorem dX12_seaLine_83 : decode cX12_seaLine 83 = .ok (.dup2, 1) := by decide +kernel
theorem dX12_seaLine_84 : decode cX12_seaLine 84 = .ok (.iaload, 1) := by decide +kernel
theorem dX12_seaLine_85 : decode cX12_seaLine 85 = .ok (.iconst 1, 1) := by decide +kernel
theorem dX12_seaLine_86 : decode cX12_seaLine 86 = .ok (.iload_n 2, 1) := by decide +kernel
theorem dX12_seaLine_87 : decode cX12_seaLine 87 = .ok (.ishl, 1) := by decide +kernel
theorem dX12_seaLine_88 : decode cX12_seaLine 88 = .ok (.ior, 1) := by decide +kernel
theorem dX12_seaLine_89 : decode cX12_seaLine 89 = .ok (.iastore, 1) := by decide +kernel
theorem dX12_seaLine_90 : decode cX12_seaLine 90 = .ok (.aload_n 0, 1) := by decide +kernel
theorem dX12_seaLine_91 : decode cX12_seaLine 91 = .ok (.getfield 23, 3) := by decide +kernel
theorem dX12_seaLine_94 : decode cX12_seaLine 94 = .ok (.bipush 9, 2) := by decide +kernel
theorem dX12_seaLine_96 : decode cX12_seaLine 96 = .ok (.iconst 3, 1) := by decide +kernel
theorem dX12_seaLine_97 : decode cX12_seaLine 97 = .ok (.iload_n 2, 1) := by decide +kernel
theorem dX12_seaLine_98 : decode cX12_seaLine 98 = .ok (.imul, 1) := by decide +kernel
theorem dX12_seaLine_99 : decode cX12_seaLine 99 = .ok (.iadd, 1) := by decide +kernel
theorem dX12_seaLine_100 : decode cX12_seaLine 100 = .ok (.iconst 2, 1) := by decide +kernel
theorem dX12_seaLine_101 : decode cX12_seaLine 101 = .ok (.iadd, 1) := by decide +kernel
theorem dX12_seaLine_102 : decode cX12_seaLine 102 = .ok (.dup2, 1) := by decide +kernel
theorem dX12_seaLine_103 : decode cX12_seaLine 103 = .ok (.iaload, 1) := by decide +kernel
theorem dX12_seaLine_104 : decode cX12_seaLine 104 = .ok (.iconst 1, 1) := by decide +kernel
theorem dX12_seaLine_105 : decode cX12_seaLine 105 = .ok (.iload_n 1, 1) := by decide +kernel
theorem dX12_seaLine_106 : decode cX12_seaLine 106 = .ok (.ishl, 1) := by decide +kernel
theorem dX12_seaLine_107 : decode cX12_seaLine 107 = .ok (.ior, 1) := by decide +kernel
theorem dX12_seaLine_108 : decode cX12_seaLine 108 = .ok (.iastore, 1) := by decide +kernel
theorem dX12_seaLine_109 : decode cX12_seaLine 109 = .ok (.aload_n 0, 1) := by decide +kernel
theorem dX12_seaLine_110 : decode cX12_seaLine 110 = .ok (.getfield 23, 3) := by decide +kernel
theorem dX12_seaLine_113 : decode cX12_seaLine 113 = .ok (.iconst 3, 1) := by decide +kernel
theorem dX12_seaLine_114 : decode cX12_seaLine 114 = .ok (.dup2, 1) := by decide +kernel
theorem dX12_seaLine_115 : decode cX12_seaLine 115 = .ok (.iaload, 1) := by decide +kernel
theorem dX12_seaLine_116 : decode cX12_seaLine 116 = .ok (.iconst 1, 1) := by decide +kernel
theorem dX12_seaLine_117 : decode cX12_seaLine 117 = .ok (.iadd, 1) := by decide +kernel
theorem dX12_seaLine_118 : decode cX12_seaLine 118 = .ok (.iastore, 1) := by decide +kernel
theorem dX12_seaLine_119 : decode cX12_seaLine 119 = .ok (.return_, 1) := by decide +kernel
theorem dX12_womanLine_0 : decode cX12_womanLine 0 = .ok (.aload_n 0, 1) := by decide +kernel
theorem dX12_womanLine_1 : decode cX12_womanLine 1 = .ok (.getfield 97, 3) := by decide +kernel
theorem dX12_womanLine_4 : decode cX12_womanLine 4 = .ok (.ifCond .eq 4, 3) := by decide +kernel
theorem dX12_womanLine_7 : decode cX12_womanLine 7 = .ok (.return_, 1) := by decide +kernel
theorem dX12_womanLine_8 : decode cX12_womanLine 8 = .ok (.bipush 27, 2) := by decide +kernel
theorem dX12_womanLine_10 : decode cX12_womanLine 10 = .ok (.iconst 4, 1) := by decide +kernel
theorem dX12_womanLine_11 : decode cX12_womanLine 11 = .ok (.aload_n 0, 1) := by decide +kernel
theorem dX12_womanLine_12 : decode cX12_womanLine 12 = .ok (.getfield 23, 3) := by decide +kernel
theorem dX12_womanLine_15 : decode cX12_womanLine 15 = .ok (.iconst 4, 1) := by decide +kernel
theorem dX12_womanLine_16 : decode cX12_womanLine 16 = .ok (.iaload, 1) := by decide +kernel
theorem dX12_womanLine_17 : decode cX12_womanLine 17 = .ok (.imul, 1) := by decide +kernel
theorem dX12_womanLine_18 : decode cX12_womanLine 18 = .ok (.iadd, 1) := by decide +kernel
theorem dX12_womanLine_19 : decode cX12_womanLine 19 = .ok (.istore_n 1, 1) := by decide +kernel
theorem dX12_womanLine_20 : decode cX12_womanLine 20 = .ok (.aload_n 0, 1) := by decide +kernel
theorem dX12_womanLine_21 : decode cX12_womanLine 21 = .ok (.bipush 6, 2) := by decide +kernel
theorem dX12_womanLine_23 : decode cX12_womanLine 23 = .ok (.aload_n 0, 1) := by decide +kernel
theorem dX12_womanLine_24 : decode cX12_womanLine 24 = .ok (.getfield 23, 3) := by decide +kernel
theorem dX12_womanLine_27 : decode cX12_womanLine 27 = .ok (.iconst 4, 1) := by decide +kernel
theorem dX12_womanLine_28 : decode cX12_womanLine 28 = .ok (.iaload, 1) := by decide +kernel
theorem dX12_womanLine_29 : decode cX12_womanLine 29 = .ok (.iadd, 1) := by decide +kernel
theorem dX12_womanLine_30 : decode cX12_womanLine 30 = .ok (.invokevirtual 226, 3) := by decide +kernel
theorem dX12_womanLine_33 : decode cX12_womanLine 33 = .ok (.aload_n 0, 1) := by decide +kernel
theorem dX12_womanLine_34 : decode cX12_womanLine 34 = .ok (.ldc 241, 2) := by decide +kernel
theorem dX12_womanLine_36 : decode cX12_womanLine 36 = .ok (.invokevirtual 114, 3) := by decide +kernel
theorem dX12_womanLine_39 : decode cX12_womanLine 39 = .ok (.ifCond .eq 7, 3) := by decide +kernel
theorem dX12_womanLine_42 : decode cX12_womanLine 42 = .ok (.iconst 0, 1) := by decide +kernel
theorem dX12_womanLine_43 : decode cX12_womanLine 43 = .ok (.goto 43, 3) := by decide +kernel
theorem dX12_womanLine_46 : decode cX12_womanLine 46 = .ok (.aload_n 0, 1) := by decide +kernel
theorem dX12_womanLine_47 : decode cX12_womanLine 47 = .ok (.ldc 243, 2) := by decide +kernel
theorem dX12_womanLine_49 : decode cX12_womanLine 49 = .ok (.invokevirtual 114, 3) := by decide +kernel
theorem dX12_womanLine_52 : decode cX12_womanLine 52 = .ok (.ifCond .eq 7, 3) := by decide +kernel
theorem dX12_womanLine_55 : decode cX12_womanLine 55 = .ok (.iconst 1, 1) := by decide +kernel
theorem dX12_womanLine_56 : decode cX12_womanLine 56 = .ok (.goto 30, 3) := by decide +kernel
theorem dX12_womanLine_59 : decode cX12_womanLine 59 = .ok (.aload_n 0, 1) := by decide +kernel
theorem dX12_womanLine_60 : decode cX12_womanLine 60 = .ok (.ldc 245, 2) := by decide +kernel
theorem dX12_womanLine_62 : decode cX12_womanLine 62 = .ok (.invokevirtual 114, 3) := by decide +kernel
theorem dX12_womanLine_65 : decode cX12_womanLine 65 = .ok (.ifCond .eq 7, 3) := by decide +kernel
theorem dX12_womanLine_68 : decode cX12_womanLine 68 = .ok (.iconst 2, 1) := by decide +kernel
theorem dX12_womanLine_69 : decode cX12_womanLine 69 = .ok (.goto 17, 3) := by decide +kernel
theorem dX12_womanLine_72 : decode cX12_womanLine 72 = .ok (.aload_n 0, 1) := by decide +kernel
theorem dX12_womanLine_73 : decode cX12_womanLine 73 = .ok (.ldc 247, 2) := by decide +kernel
theorem dX12_womanLine_75 : decode cX12_womanLine 75 = .ok (.invokevirtual 114, 3) := by decide +kernel
theorem dX12_womanLine_78 : decode cX12_womanLine 78 = .ok (.ifCond .eq 7, 3) := by decide +kernel
theorem dX12_womanLine_81 : decode cX12_womanLine 81 = .ok (.iconst 3, 1) := by decide +kernel
theorem dX12_womanLine_82 : decode cX12_womanLine 82 = .ok (.goto 4, 3) := by decide +kernel
theorem dX12_womanLine_85 : decode cX12_womanLine 85 = .ok (.iconst (-1), 1) := by decide +kernel
theorem dX12_womanLine_86 : decode cX12_womanLine 86 = .ok (.istore_n 2, 1) := by decide +kernel
theorem dX12_womanLine_87 : decode cX12_womanLine 87 = .ok (.iload_n 2, 1) := by decide +kernel
theorem dX12_womanLine_88 : decode cX12_womanLine 88 = .ok (.ifCond .ge 12, 3) := by decide +kernel
theorem dX12_womanLine_91 : decode cX12_womanLine 91 = .ok (.aload_n 0, 1) := by decide +kernel
theorem dX12_womanLine_92 : decode cX12_womanLine 92 = .ok (.iconst 1, 1) := by decide +kernel
theorem dX12_womanLine_93 : decode cX12_womanLine 93 = .ok (.aload_n 0, 1) := by decide +kernel
theorem dX12_womanLine_94 : decode cX12_womanLine 94 = .ok (.getfield 78, 3) := by decide +kernel
theorem dX12_womanLine_97 : decode cX12_womanLine 97 = .ok (.invokevirtual 124, 3) := by decide +kernel
theorem dX12_womanLine_100 : decode cX12_womanLine 100 = .ok (.aload_n 0, 1) := by decide +kernel
theorem dX12_womanLine_101 : decode cX12_womanLine 101 = .ok (.getfield 97, 3) := by decide +kernel
theorem dX12_womanLine_104 : decode cX12_womanLine 104 = .ok (.ifCond .eq 4, 3) := by decide +kernel
theorem dX12_womanLine_107 : decode cX12_womanLine 107 = .ok (.return_, 1) := by decide +kernel
theorem dX12_womanLine_108 : decode cX12_womanLine 108 = .ok (.aload_n 0, 1) := by decide +kernel
theorem dX12_womanLine_109 : decode cX12_womanLine 109 = .ok (.invokevirtual 118, 3) := by decide +kernel
theorem dX12_womanLine_112 : decode cX12_womanLine 112 = .ok (.aload_n 0, 1) := by decide +kernel
theorem dX12_womanLine_113 : decode cX12_womanLine 113 = .ok (.ldc 249, 2) := by decide +kernel
theorem dX12_womanLine_115 : decode cX12_womanLine 115 = .ok (.invokevirtual 161, 3) := by decide +kernel
theorem dX12_womanLine_118 : decode cX12_womanLine 118 = .ok (.aload_n 0, 1) := by decide +kernel
theorem dX12_womanLine_119 : decode cX12_womanLine 119 = .ok (.getfield 23, 3) := by decide +kernel
theorem dX12_womanLine_122 : decode cX12_womanLine 122 = .ok (.iload_n 1, 1) := by decide +kernel
theorem dX12_womanLine_123 : decode cX12_womanLine 123 = .ok (.iload_n 2, 1) := by decide +kernel
theorem dX12_womanLine_124 : decode cX12_womanLine 124 = .ok (.iastore, 1) := by decide +kernel
theorem dX12_womanLine_125 : decode cX12_womanLine 125 = .ok (.aload_n 0, 1) := by decide +kernel
theorem dX12_womanLine_126 : decode cX12_womanLine 126 = .ok (.getfield 23, 3) := by decide +kernel
theorem dX12_womanLine_129 : decode cX12_womanLine 129 = .ok (.iload_n 1, 1) := by decide +kernel
theorem dX12_womanLine_130 : decode cX12_womanLine 130 = .ok (.iconst 1, 1) := by decide +kernel
theorem dX12_womanLine_131 : decode cX12_womanLine 131 = .ok (.iadd, 1) := by decide +kernel
theorem dX12_womanLine_132 : decode cX12_womanLine 132 = .ok (.aload_n 0, 1) := by decide +kernel
theorem dX12_womanLine_133 : decode cX12_womanLine 133 = .ok (.invokevirtual 234, 3) := by decide +kernel
theorem dX12_womanLine_136 : decode cX12_womanLine 136 = .ok (.iastore, 1) := by decide +kernel
theorem dX12_womanLine_137 : decode cX12_womanLine 137 = .ok (.aload_n 0, 1) := by decide +kernel
theorem dX12_womanLine_138 : decode cX12_womanLine 138 = .ok (.getfield 23, 3) := by decide +kernel
theorem dX12_womanLine_141 : decode cX12_womanLine 141 = .ok (.iload_n 1, 1) := by decide +kernel
theorem dX12_womanLine_142 : decode cX12_womanLine 142 = .ok (.iconst 2, 1) := by decide +kernel
theorem dX12_womanLine_143 : decode cX12_womanLine 143 = .ok (.iadd, 1) := by decide +kernel
theorem dX12_womanLine_144 : decode cX12_womanLine 144 = .ok (.aload_n 0, 1) := by decide +kernel
theorem dX12_womanLine_145 : decode cX12_womanLine 145 = .ok (.ldc 250, 2) := by decide +kernel
theorem dX12_womanLine_147 : decode cX12_womanLine 147 = .ok (.iconst 0, 1) := by decide +kernel
theorem dX12_womanLine_148 : decode cX12_womanLine 148 = .ok (.bipush 99, 2) := by decide +kernel
theorem dX12_womanLine_150 : decode cX12_womanLine 150 = .ok (.invokevirtual 220, 3) := by decide +kernel
theorem dX12_womanLine_153 : decode cX12_womanLine 153 = .ok (.iastore, 1) := by decide +kernel
theorem dX12_womanLine_154 : decode cX12_womanLine 154 = .ok (.aload_n 0, 1) := by decide +kernel
theorem dX12_womanLine_155 : decode cX12_womanLine 155 = .ok (.getfield 23, 3) := by decide +kernel
theorem dX12_womanLine_158 : decode cX12_womanLine 158 = .ok (.iload_n 1, 1) := by decide +kernel
theorem dX12_womanLine_159 : decode cX12_womanLine 159 = .ok (.iconst 3, 1) := by decide +kernel
theorem dX12_womanLine_160 : decode cX12_womanLine 160 = .ok (.iadd, 1) := by decide +kernel
theorem dX12_womanLine_161 : decode cX12_womanLine 161 = .ok (.aload_n 0, 1) := by decide +kernel
theorem dX12_womanLine_162 : decode cX12_womanLine 162 = .ok (.ldc 252, 2) := by decide +kernel
theorem dX12_womanLine_164 : decode cX12_womanLine 164 = .ok (.iconst 0, 1) := by decide +kernel
theorem dX12_womanLine_165 : decode cX12_womanLine 165 = .ok (.bipush 60, 2) := by decide +kernel
theorem dX12_womanLine_167 : decode cX12_womanLine 167 = .ok (.invokevirtual 220, 3) := by decide +kernel
theorem dX12_womanLine_170 : decode cX12_womanLine 170 = .ok (.iastore, 1) := by decide +kernel
theorem dX12_womanLine_171 : decode cX12_womanLine 171 = .ok (.aload_n 0, 1) := by decide +kernel
theorem dX12_womanLine_172 : decode cX12_womanLine 172 = .ok (.getfield 97, 3) := by decide +kernel
theorem dX12_womanLine_175 : decode cX12_womanLine 175 = .ok (.ifCond .ne 13, 3) := by decide +kernel
theorem dX12_womanLine_178 : decode cX12_womanLine 178 = .ok (.aload_n 0, 1) := by decide +kernel
theorem dX12_womanLine_179 : decode cX12_womanLine 179 = .ok (.getfield 23, 3) := by decide +kernel
theorem dX12_womanLine_182 : decode cX12_womanLine 182 = .ok (.iconst 4, 1) := by decide +kernel
theorem dX12_womanLine_183 : decode cX12_womanLine 183 = .ok (.dup2, 1) := by decide +kernel
theorem dX12_womanLine_184 : decode cX12_womanLine 184 = .ok (.iaload, 1) := by decide +kernel
theorem dX12_womanLine_185 : decode cX12_womanLine 185 = .ok (.iconst 1, 1) := by decide +kernel
theorem dX12_womanLine_186 : decode cX12_womanLine 186 = .ok (.iadd, 1) := by decide +kernel
theorem dX12_womanLine_187 : decode cX12_womanLine 187 = .ok (.iastore, 1) := by decide +kernel
theorem dX12_womanLine_188 : decode cX12_womanLine 188 = .ok (.return_, 1) := by decide +kernel
theorem dX12_rivalLine_0 : decode cX12_rivalLine 0 = .ok (.aload_n 0, 1) := by decide +kernel
theorem dX12_rivalLine_1 : decode cX12_rivalLine 1 = .ok (.getfield 97, 3) := by decide +kernel
theorem dX12_rivalLine_4 : decode cX12_rivalLine 4 = .ok (.ifCond .eq 4, 3) := by decide +kernel
theorem dX12_rivalLine_7 : decode cX12_rivalLine 7 = .ok (.return_, 1) := by decide +kernel
theorem dX12_rivalLine_8 : decode cX12_rivalLine 8 = .ok (.bipush 59, 2) := by decide +kernel
theorem dX12_rivalLine_10 : decode cX12_rivalLine 10 = .ok (.iconst 2, 1) := by decide +kernel
theorem dX12_rivalLine_11 : decode cX12_rivalLine 11 = .ok (.aload_n 0, 1) := by decide +kernel
theorem dX12_rivalLine_12 : decode cX12_rivalLine 12 = .ok (.getfield 23, 3) := by decide +kernel
theorem dX12_rivalLine_15 : decode cX12_rivalLine 15 = .ok (.iconst 5, 1) := by decide +kernel
theorem dX12_rivalLine_16 : decode cX12_rivalLine 16 = .ok (.iaload, 1) := by decide +kernel
theorem dX12_rivalLine_17 : decode cX12_rivalLine 17 = .ok (.imul, 1) := by decide +kernel
theorem dX12_rivalLine_18 : decode cX12_rivalLine 18 = .ok (.iadd, 1) := by decide +kernel
theorem dX12_rivalLine_19 : decode cX12_rivalLine 19 = .ok (.istore_n 1, 1) := by decide +kernel
theorem dX12_rivalLine_20 : decode cX12_rivalLine 20 = .ok (.aload_n 0, 1) := by decide +kernel
theorem dX12_rivalLine_21 : decode cX12_rivalLine 21 = .ok (.bipush 6, 2) := by decide +kernel
theorem dX12_rivalLine_23 : decode cX12_rivalLine 23 = .ok (.bipush 13, 2) := by decide +kernel
theorem dX12_rivalLine_25 : decode cX12_rivalLine 25 = .ok (.invokevirtual 154, 3) := by decide +kernel
theorem dX12_rivalLine_28 : decode cX12_rivalLine 28 = .ok (.istore_n 2, 1) := by decide +kernel
theorem dX12_rivalLine_29 : decode cX12_rivalLine 29 = .ok (.aload_n 0, 1) := by decide +kernel
theorem dX12_rivalLine_30 : decode cX12_rivalLine 30 = .ok (.getfield 97, 3) := by decide +kernel
theorem dX12_rivalLine_33 : decode cX12_rivalLine 33 = .ok (.ifCond .eq 4, 3) := by decide +kernel
theorem dX12_rivalLine_36 : decode cX12_rivalLine 36 = .ok (.return_, 1) := by decide +kernel
theorem dX12_rivalLine_37 : decode cX12_rivalLine 37 = .ok (.aload_n 0, 1) := by decide +kernel
theorem dX12_rivalLine_38 : decode cX12_rivalLine 38 = .ok (.invokevirtual 118, 3) := by decide +kernel
theorem dX12_rivalLine_41 : decode cX12_rivalLine 41 = .ok (.aload_n 0, 1) := by decide +kernel
theorem dX12_rivalLine_42 : decode cX12_rivalLine 42 = .ok (.getfield 23, 3) := by decide +kernel
theorem dX12_rivalLine_45 : decode cX12_rivalLine 45 = .ok (.iload_n 1, 1) := by decide +kernel
theorem dX12_rivalLine_46 : decode cX12_rivalLine 46 = .ok (.iload_n 2, 1) := by decide +kernel
theorem dX12_rivalLine_47 : decode cX12_rivalLine 47 = .ok (.iastore, 1) := by decide +kernel
theorem dX12_rivalLine_48 : decode cX12_rivalLine 48 = .ok (.aload_n 0, 1) := by decide +kernel
theorem dX12_rivalLine_49 : decode cX12_rivalLine 49 = .ok (.getfield 23, 3) := by decide +kernel
theorem dX12_rivalLine_52 : decode cX12_rivalLine 52 = .ok (.iload_n 1, 1) := by decide +kernel
theorem dX12_rivalLine_53 : decode cX12_rivalLine 53 = .ok (.iconst 1, 1) := by decide +kernel
theorem dX12_rivalLine_54 : decode cX12_rivalLine 54 = .ok (.iadd, 1) := by decide +kernel
theorem dX12_rivalLine_55 : decode cX12_rivalLine 55 = .ok (.aload_n 0, 1) := by decide +kernel
theorem dX12_rivalLine_56 : decode cX12_rivalLine 56 = .ok (.ldc 254, 2) := by decide +kernel
theorem dX12_rivalLine_58 : decode cX12_rivalLine 58 = .ok (.iconst 0, 1) := by decide +kernel
theorem dX12_rivalLine_59 : decode cX12_rivalLine 59 = .ok (.bipush 99, 2) := by decide +kernel
theorem dX12_rivalLine_61 : decode cX12_rivalLine 61 = .ok (.invokevirtual 220, 3) := by decide +kernel
theorem dX12_rivalLine_64 : decode cX12_rivalLine 64 = .ok (.iastore, 1) := by decide +kernel
theorem dX12_rivalLine_65 : decode cX12_rivalLine 65 = .ok (.aload_n 0, 1) := by decide +kernel
theorem dX12_rivalLine_66 : decode cX12_rivalLine 66 = .ok (.getfield 97, 3) := by decide +kernel
theorem dX12_rivalLine_69 : decode cX12_rivalLine 69 = .ok (.ifCond .ne 13, 3) := by decide +kernel
theorem dX12_rivalLine_72 : decode cX12_rivalLine 72 = .ok (.aload_n 0, 1) := by decide +kernel
theorem dX12_rivalLine_73 : decode cX12_rivalLine 73 = .ok (.getfield 23, 3) := by decide +kernel
theorem dX12_rivalLine_76 : decode cX12_rivalLine 76 = .ok (.iconst 5, 1) := by decide +kernel
theorem dX12_rivalLine_77 : decode cX12_rivalLine 77 = .ok (.dup2, 1) := by decide +kernel
theorem dX12_rivalLine_78 : decode cX12_rivalLine 78 = .ok (.iaload, 1) := by decide +kernel
theorem dX12_rivalLine_79 : decode cX12_rivalLine 79 = .ok (.iconst 1, 1) := by decide +kernel
theorem dX12_rivalLine_80 : decode cX12_rivalLine 80 = .ok (.iadd, 1) := by decide +kernel
theorem dX12_rivalLine_81 : decode cX12_rivalLine 81 = .ok (.iastore, 1) := by decide +kernel
theorem dX12_rivalLine_82 : decode cX12_rivalLine 82 = .ok (.return_, 1) := by decide +kernel
theorem dX12_letterLine_0 : decode cX12_letterLine 0 = .ok (.aload_n 0, 1) := by decide +kernel
theorem dX12_letterLine_1 : decode cX12_letterLine 1 = .ok (.getfield 97, 3) := by decide +kernel
theorem dX12_letterLine_4 : decode cX12_letterLine 4 = .ok (.ifCond .eq 4, 3) := by decide +kernel
theorem dX12_letterLine_7 : decode cX12_letterLine 7 = .ok (.return_, 1) := by decide +kernel
theorem dX12_letterLine_8 : decode cX12_letterLine 8 = .ok (.bipush 75, 2) := by decide +kernel
theorem dX12_letterLine_10 : decode cX12_letterLine 10 = .ok (.iconst 2, 1) := by decide +kernel
theorem dX12_letterLine_11 : decode cX12_letterLine 11 = .ok (.aload_n 0, 1) := by decide +kernel
theorem dX12_letterLine_12 : decode cX12_letterLine 12 = .ok (.getfield 23, 3) := by decide +kernel
theorem dX12_letterLine_15 : decode cX12_letterLine 15 = .ok (.bipush 6, 2) := by decide +kernel
theorem dX12_letterLine_17 : decode cX12_letterLine 17 = .ok (.iaload, 1) := by decide +kernel
theorem dX12_letterLine_18 : decode cX12_letterLine 18 = .ok (.imul, 1) := by decide +kernel
theorem dX12_letterLine_19 : decode cX12_letterLine 19 = .ok (.iadd, 1) := by decide +kernel
theorem dX12_letterLine_20 : decode cX12_letterLine 20 = .ok (.istore_n 1, 1) := by decide +kernel
theorem dX12_letterLine_21 : decode cX12_letterLine 21 = .ok (.aload_n 0, 1) := by decide +kernel
theorem dX12_letterLine_22 : decode cX12_letterLine 22 = .ok (.getfield 23, 3) := by decide +kernel
theorem dX12_letterLine_25 : decode cX12_letterLine 25 = .ok (.iload_n 1, 1) := by decide +kernel
theorem dX12_letterLine_26 : decode cX12_letterLine 26 = .ok (.aload_n 0, 1) := by decide +kernel
theorem dX12_letterLine_27 : decode cX12_letterLine 27 = .ok (.invokevirtual 234, 3) := by decide +kernel
theorem dX12_letterLine_30 : decode cX12_letterLine 30 = .ok (.iastore, 1) := by decide +kernel
theorem dX12_letterLine_31 : decode cX12_letterLine 31 = .ok (.aload_n 0, 1) := by decide +kernel
theorem dX12_letterLine_32 : decode cX12_letterLine 32 = .ok (.getfield 23, 3) := by decide +kernel
theorem dX12_letterLine_35 : decode cX12_letterLine 35 = .ok (.iload_n 1, 1) := by decide +kernel
theorem dX12_letterLine_36 : decode cX12_letterLine 36 = .ok (.iconst 1, 1) := by decide +kernel
theorem dX12_letterLine_37 : decode cX12_letterLine 37 = .ok (.iadd, 1) := by decide +kernel
theorem dX12_letterLine_38 : decode cX12_letterLine 38 = .ok (.aload_n 0, 1) := by decide +kernel
theorem dX12_letterLine_39 : decode cX12_letterLine 39 = .ok (.ldc_w 256, 3) := by decide +kernel
theorem dX12_letterLine_42 : decode cX12_letterLine 42 = .ok (.iconst 1, 1) := by decide +kernel
theorem dX12_letterLine_43 : decode cX12_letterLine 43 = .ok (.iconst 5, 1) := by decide +kernel
theorem dX12_letterLine_44 : decode cX12_letterLine 44 = .ok (.invokevirtual 220, 3) := by decide +kernel
theorem dX12_letterLine_47 : decode cX12_letterLine 47 = .ok (.iastore, 1) := by decide +kernel
theorem dX12_letterLine_48 : decode cX12_letterLine 48 = .ok (.aload_n 0, 1) := by decide +kernel
theorem dX12_letterLine_49 : decode cX12_letterLine 49 = .ok (.getfield 97, 3) := by decide +kernel
theorem dX12_letterLine_52 : decode cX12_letterLine 52 = .ok (.ifCond .ne 14, 3) := by decide +kernel
theorem dX12_letterLine_55 : decode cX12_letterLine 55 = .ok (.aload_n 0, 1) := by decide +kernel
theorem dX12_letterLine_56 : decode cX12_letterLine 56 = .ok (.getfield 23, 3) := by decide +kernel
theorem dX12_letterLine_59 : decode cX12_letterLine 59 = .ok (.bipush 6, 2) := by decide +kernel
theorem dX12_letterLine_61 : decode cX12_letterLine 61 = .ok (.dup2, 1) := by decide +kernel
theorem dX12_letterLine_62 : decode cX12_letterLine 62 = .ok (.iaload, 1) := by decide +kernel
theorem dX12_letterLine_63 : decode cX12_letterLine 63 = .ok (.iconst 1, 1) := by decide +kernel
theorem dX12_letterLine_64 : decode cX12_letterLine 64 = .ok (.iadd, 1) := by decide +kernel
theorem dX12_letterLine_65 : decode cX12_letterLine 65 = .ok (.iastore, 1) := by decide +kernel
theorem dX12_letterLine_66 : decode cX12_letterLine 66 = .ok (.return_, 1) := by decide +kernel
theorem dX12_handLine_0 : decode cX12_handLine 0 = .ok (.aload_n 0, 1) := by decide +kernel
theorem dX12_handLine_1 : decode cX12_handLine 1 = .ok (.getfield 97, 3) := by decide +kernel
theorem dX12_handLine_4 : decode cX12_handLine 4 = .ok (.ifCond .eq 4, 3) := by decide +kernel
theorem dX12_handLine_7 : decode cX12_handLine 7 = .ok (.return_, 1) := by decide +kernel
theorem dX12_handLine_8 : decode cX12_handLine 8 = .ok (.bipush 87, 2) := by decide +kernel
theorem dX12_handLine_10 : decode cX12_handLine 10 = .ok (.iconst 2, 1) := by decide +kernel
theorem dX12_handLine_11 : decode cX12_handLine 11 = .ok (.aload_n 0, 1) := by decide +kernel
theorem dX12_handLine_12 : decode cX12_handLine 12 = .ok (.getfield 23, 3) := by decide +kernel
theorem dX12_handLine_15 : decode cX12_handLine 15 = .ok (.bipush 7, 2) := by decide +kernel
theorem dX12_handLine_17 : decode cX12_handLine 17 = .ok (.iaload, 1) := by decide +kernel
theorem dX12_handLine_18 : decode cX12_handLine 18 = .ok (.imul, 1) := by decide +kernel
theorem dX12_handLine_19 : decode cX12_handLine 19 = .ok (.iadd, 1) := by decide +kernel
theorem dX12_handLine_20 : decode cX12_handLine 20 = .ok (.istore_n 1, 1) := by decide +kernel
theorem dX12_handLine_21 : decode cX12_handLine 21 = .ok (.aload_n 0, 1) := by decide +kernel
theorem dX12_handLine_22 : decode cX12_handLine 22 = .ok (.bipush 14, 2) := by decide +kernel
theorem dX12_handLine_24 : decode cX12_handLine 24 = .ok (.aload_n 0, 1) := by decide +kernel
theorem dX12_handLine_25 : decode cX12_handLine 25 = .ok (.getfield 23, 3) := by decide +kernel
theorem dX12_handLine_28 : decode cX12_handLine 28 = .ok (.bipush 7, 2) := by decide +kernel
theorem dX12_handLine_30 : decode cX12_handLine 30 = .ok (.iaload, 1) := by decide +kernel
theorem dX12_handLine_31 : decode cX12_handLine 31 = .ok (.iadd, 1) := by decide +kernel
theorem dX12_handLine_32 : decode cX12_handLine 32 = .ok (.invokevirtual 226, 3) := by decide +kernel
theorem dX12_handLine_35 : decode cX12_handLine 35 = .ok (.aload_n 0, 1) := by decide +kernel
theorem dX12_handLine_36 : decode cX12_handLine 36 = .ok (.getfield 23, 3) := by decide +kernel
theorem dX12_handLine_39 : decode cX12_handLine 39 = .ok (.iload_n 1, 1) := by decide +kernel
theorem dX12_handLine_40 : decode cX12_handLine 40 = .ok (.aload_n 0, 1) := by decide +kernel
theorem dX12_handLine_41 : decode cX12_handLine 41 = .ok (.ldc_w 258, 3) := by decide +kernel
theorem dX12_handLine_44 : decode cX12_handLine 44 = .ok (.iconst 0, 1) := by decide +kernel
theorem dX12_handLine_45 : decode cX12_handLine 45 = .ok (.bipush 60, 2) := by decide +kernel
theorem dX12_handLine_47 : decode cX12_handLine 47 = .ok (.invokevirtual 220, 3) := by decide +kernel
theorem dX12_handLine_50 : decode cX12_handLine 50 = .ok (.iastore, 1) := by decide +kernel
theorem dX12_handLine_51 : decode cX12_handLine 51 = .ok (.aload_n 0, 1) := by decide +kernel
theorem dX12_handLine_52 : decode cX12_handLine 52 = .ok (.getfield 23, 3) := by decide +kernel
theorem dX12_handLine_55 : decode cX12_handLine 55 = .ok (.iload_n 1, 1) := by decide +kernel
theorem dX12_handLine_56 : decode cX12_handLine 56 = .ok (.iconst 1, 1) := by decide +kernel
theorem dX12_handLine_57 : decode cX12_handLine 57 = .ok (.iadd, 1) := by decide +kernel
theorem dX12_handLine_58 : decode cX12_handLine 58 = .ok (.aload_n 0, 1) := by decide +kernel
theorem dX12_handLine_59 : decode cX12_handLine 59 = .ok (.ldc_w 260, 3) := by decide +kernel
theorem dX12_handLine_62 : decode cX12_handLine 62 = .ok (.iconst 1, 1) := by decide +kernel
theorem dX12_handLine_63 : decode cX12_handLine 63 = .ok (.bipush 9, 2) := by decide +kernel
theorem dX12_handLine_65 : decode cX12_handLine 65 = .ok (.invokevirtual 220, 3) := by decide +kernel
theorem dX12_handLine_68 : decode cX12_handLine 68 = .ok (.iastore, 1) := by decide +kernel
theorem dX12_handLine_69 : decode cX12_handLine 69 = .ok (.aload_n 0, 1) := by decide +kernel
theorem dX12_handLine_70 : decode cX12_handLine 70 = .ok (.getfield 97, 3) := by decide +kernel
theorem dX12_handLine_73 : decode cX12_handLine 73 = .ok (.ifCond .ne 14, 3) := by decide +kernel
theorem dX12_handLine_76 : decode cX12_handLine 76 = .ok (.aload_n 0, 1) := by decide +kernel
theorem dX12_handLine_77 : decode cX12_handLine 77 = .ok (.getfield 23, 3) := by decide +kernel
theorem dX12_handLine_80 : decode cX12_handLine 80 = .ok (.bipush 7, 2) := by decide +kernel
theorem dX12_handLine_82 : decode cX12_handLine 82 = .ok (.dup2, 1) := by decide +kernel
theorem dX12_handLine_83 : decode cX12_handLine 83 = .ok (.iaload, 1) := by decide +kernel
theorem dX12_handLine_84 : decode cX12_handLine 84 = .ok (.iconst 1, 1) := by decide +kernel
theorem dX12_handLine_85 : decode cX12_handLine 85 = .ok (.iadd, 1) := by decide +kernel
theorem dX12_handLine_86 : decode cX12_handLine 86 = .ok (.iastore, 1) := by decide +kernel
theorem dX12_handLine_87 : decode cX12_handLine 87 = .ok (.return_, 1) := by decide +kernel
theorem dX12_nearlyLine_0 : decode cX12_nearlyLine 0 = .ok (.aload_n 0, 1) := by decide +kernel
theorem dX12_nearlyLine_1 : decode cX12_nearlyLine 1 = .ok (.getfield 97, 3) := by decide +kernel
theorem dX12_nearlyLine_4 : decode cX12_nearlyLine 4 = .ok (.ifCond .eq 4, 3) := by decide +kernel
theorem dX12_nearlyLine_7 : decode cX12_nearlyLine 7 = .ok (.return_, 1) := by decide +kernel
theorem dX12_nearlyLine_8 : decode cX12_nearlyLine 8 = .ok (.bipush 97, 2) := by decide +kernel
theorem dX12_nearlyLine_10 : decode cX12_nearlyLine 10 = .ok (.iconst 2, 1) := by decide +kernel
theorem dX12_nearlyLine_11 : decode cX12_nearlyLine 11 = .ok (.aload_n 0, 1) := by decide +kernel
theorem dX12_nearlyLine_12 : decode cX12_nearlyLine 12 = .ok (.getfield 23, 3) := by decide +kernel
theorem dX12_nearlyLine_15 : decode cX12_nearlyLine 15 = .ok (.bipush 8, 2) := by decide +kernel
theorem dX12_nearlyLine_17 : decode cX12_nearlyLine 17 = .ok (.iaload, 1) := by decide +kernel
theorem dX12_nearlyLine_18 : decode cX12_nearlyLine 18 = .ok (.imul, 1) := by decide +kernel
theorem dX12_nearlyLine_19 : decode cX12_nearlyLine 19 = .ok (.iadd, 1) := by decide +kernel
theorem dX12_nearlyLine_20 : decode cX12_nearlyLine 20 = .ok (.istore_n 1, 1) := by decide +kernel
theorem dX12_nearlyLine_21 : decode cX12_nearlyLine 21 = .ok (.aload_n 0, 1) := by decide +kernel
theorem dX12_nearlyLine_22 : decode cX12_nearlyLine 22 = .ok (.getfield 23, 3) := by decide +kernel
theorem dX12_nearlyLine_25 : decode cX12_nearlyLine 25 = .ok (.iload_n 1, 1) := by decide +kernel
theorem dX12_nearlyLine_26 : decode cX12_nearlyLine 26 = .ok (.aload_n 0, 1) := by decide +kernel
theorem dX12_nearlyLine_27 : decode cX12_nearlyLine 27 = .ok (.ldc_w 262, 3) := by decide +kernel
theorem dX12_nearlyLine_30 : decode cX12_nearlyLine 30 = .ok (.iconst 0, 1) := by decide +kernel
theorem dX12_nearlyLine_31 : decode cX12_nearlyLine 31 = .ok (.bipush 8, 2) := by decide +kernel
theorem dX12_nearlyLine_33 : decode cX12_nearlyLine 33 = .ok (.invokevirtual 220, 3) := by decide +kernel
theorem dX12_nearlyLine_36 : decode cX12_nearlyLine 36 = .ok (.iastore, 1) := by decide +kernel
theorem dX12_nearlyLine_37 : decode cX12_nearlyLine 37 = .ok (.aload_n 0, 1) := by decide +kernel
theorem dX12_nearlyLine_38 : decode cX12_nearlyLine 38 = .ok (.getfield 23, 3) := by decide +kernel
theorem dX12_nearlyLine_41 : decode cX12_nearlyLine 41 = .ok (.iload_n 1, 1) := by decide +kernel
theorem dX12_nearlyLine_42 : decode cX12_nearlyLine 42 = .ok (.iconst 1, 1) := by decide +kernel
theorem dX12_nearlyLine_43 : decode cX12_nearlyLine 43 = .ok (.iadd, 1) := by decide +kernel
theorem dX12_nearlyLine_44 : decode cX12_nearlyLine 44 = .ok (.aload_n 0, 1) := by decide +kernel
theorem dX12_nearlyLine_45 : decode cX12_nearlyLine 45 = .ok (.ldc_w 264, 3) := by decide +kernel
theorem dX12_nearlyLine_48 : decode cX12_nearlyLine 48 = .ok (.bipush 16, 2) := by decide +kernel
theorem dX12_nearlyLine_50 : decode cX12_nearlyLine 50 = .ok (.bipush 40, 2) := by decide +kernel
theorem dX12_nearlyLine_52 : decode cX12_nearlyLine 52 = .ok (.invokevirtual 220, 3) := by decide +kernel
theorem dX12_nearlyLine_55 : decode cX12_nearlyLine 55 = .ok (.iastore, 1) := by decide +kernel
theorem dX12_nearlyLine_56 : decode cX12_nearlyLine 56 = .ok (.aload_n 0, 1) := by decide +kernel
theorem dX12_nearlyLine_57 : decode cX12_nearlyLine 57 = .ok (.getfield 97, 3) := by decide +kernel
theorem dX12_nearlyLine_60 : decode cX12_nearlyLine 60 = .ok (.ifCond .ne 14, 3) := by decide +kernel
theorem dX12_nearlyLine_63 : decode cX12_nearlyLine 63 = .ok (.aload_n 0, 1) := by decide +kernel
theorem dX12_nearlyLine_64 : decode cX12_nearlyLine 64 = .ok (.getfield 23, 3) := by decide +kernel
theorem dX12_nearlyLine_67 : decode cX12_nearlyLine 67 = .ok (.bipush 8, 2) := by decide +kernel
theorem dX12_nearlyLine_69 : decode cX12_nearlyLine 69 = .ok (.dup2, 1) := by decide +kernel
theorem dX12_nearlyLine_70 : decode cX12_nearlyLine 70 = .ok (.iaload, 1) := by decide +kernel
theorem dX12_nearlyLine_71 : decode cX12_nearlyLine 71 = .ok (.iconst 1, 1) := by decide +kernel
theorem dX12_nearlyLine_72 : decode cX12_nearlyLine 72 = .ok (.iadd, 1) := by decide +kernel
theorem dX12_nearlyLine_73 : decode cX12_nearlyLine 73 = .ok (.iastore, 1) := by decide +kernel
theorem dX12_nearlyLine_74 : decode cX12_nearlyLine 74 = .ok (.return_, 1) := by decide +kernel
theorem dX12_fault_0 : decode cX12_fault 0 = .ok (.aload_n 0, 1) := by decide +kernel
theorem dX12_fault_1 : decode cX12_fault 1 = .ok (.iconst 0, 1) := by decide +kernel
theorem dX12_fault_2 : decode cX12_fault 2 = .ok (.putfield 59, 3) := by decide +kernel
theorem dX12_fault_5 : decode cX12_fault 5 = .ok (.aload_n 0, 1) := by decide +kernel
theorem dX12_fault_6 : decode cX12_fault 6 = .ok (.getfield 101, 3) := by decide +kernel
theorem dX12_fault_9 : decode cX12_fault 9 = .ok (.ireturn, 1) := by decide +kernel
theorem dX12_where_0 : decode cX12_where 0 = .ok (.aload_n 0, 1) := by decide +kernel
theorem dX12_where_1 : decode cX12_where 1 = .ok (.iconst 0, 1) := by decide +kernel
theorem dX12_where_2 : decode cX12_where 2 = .ok (.putfield 59, 3) := by decide +kernel
theorem dX12_where_5 : decode cX12_where 5 = .ok (.aload_n 0, 1) := by decide +kernel
theorem dX12_where_6 : decode cX12_where 6 = .ok (.getfield 62, 3) := by decide +kernel
theorem dX12_where_9 : decode cX12_where 9 = .ok (.iconst 4, 1) := by decide +kernel
theorem dX12_where_10 : decode cX12_where 10 = .ok (.if_icmp .ne 10, 3) := by decide +kernel
theorem dX12_where_13 : decode cX12_where 13 = .ok (.aload_n 0, 1) := by decide +kernel
theorem dX12_where_14 : decode cX12_where 14 = .ok (.getfield 13, 3) := by decide +kernel
theorem dX12_where_17 : decode cX12_where 17 = .ok (.goto 4, 3) := by decide +kernel
theorem dX12_where_20 : decode cX12_where 20 = .ok (.iconst (-1), 1) := by decide +kernel
theorem dX12_where_21 : decode cX12_where 21 = .ok (.ireturn, 1) := by decide +kernel
theorem dX12_isHarbour_0 : decode cX12_isHarbour 0 = .ok (.aload_n 0, 1) := by decide +kernel
theorem dX12_isHarbour_1 : decode cX12_isHarbour 1 = .ok (.getfield 181, 3) := by decide +kernel
theorem dX12_isHarbour_4 : decode cX12_isHarbour 4 = .ok (.ifCond .eq 23, 3) := by decide +kernel
theorem dX12_isHarbour_7 : decode cX12_isHarbour 7 = .ok (.iload_n 1, 1) := by decide +kernel
theorem dX12_isHarbour_8 : decode cX12_isHarbour 8 = .ok (.iconst 0, 1) := by decide +kernel
theorem dX12_isHarbour_9 : decode cX12_isHarbour 9 = .ok (.aload_n 0, 1) := by decide +kernel
theorem dX12_isHarbour_10 : decode cX12_isHarbour 10 = .ok (.getfield 20, 3) := by decide +kernel
theorem dX12_isHarbour_13 : decode cX12_isHarbour 13 = .ok (.iconst 2, 1) := by decide +kernel
theorem dX12_isHarbour_14 : decode cX12_isHarbour 14 = .ok (.iaload, 1) := by decide +kernel
theorem dX12_isHarbour_15 : decode cX12_isHarbour 15 = .ok (.iconst 1, 1) := by decide +kernel
theorem dX12_isHarbour_16 : decode cX12_isHarbour 16 = .ok (.isub, 1) := by decide +kernel
theorem dX12_isHarbour_17 : decode cX12_isHarbour 17 = .ok (.invokestatic 150, 3) := by decide +kernel
theorem dX12_isHarbour_20 : decode cX12_isHarbour 20 = .ok (.ifCond .eq 7, 3) := by decide +kernel
theorem dX12_isHarbour_23 : decode cX12_isHarbour 23 = .ok (.iconst 1, 1) := by decide +kernel
theorem dX12_isHarbour_24 : decode cX12_isHarbour 24 = .ok (.goto 4, 3) := by decide +kernel
theorem dX12_isHarbour_27 : decode cX12_isHarbour 27 = .ok (.iconst 0, 1) := by decide +kernel
theorem dX12_isHarbour_28 : decode cX12_isHarbour 28 = .ok (.ireturn, 1) := by decide +kernel
theorem dX12_isWoman_0 : decode cX12_isWoman 0 = .ok (.aload_n 0, 1) := by decide +kernel
theorem dX12_isWoman_1 : decode cX12_isWoman 1 = .ok (.getfield 181, 3) := by decide +kernel
theorem dX12_isWoman_4 : decode cX12_isWoman 4 = .ok (.ifCond .eq 23, 3) := by decide +kernel
theorem dX12_isWoman_7 : decode cX12_isWoman 7 = .ok (.iload_n 1, 1) := by decide +kernel
theorem dX12_isWoman_8 : decode cX12_isWoman 8 = .ok (.iconst 0, 1) := by decide +kernel
theorem dX12_isWoman_9 : decode cX12_isWoman 9 = .ok (.aload_n 0, 1) := by decide +kernel
theorem dX12_isWoman_10 : decode cX12_isWoman 10 = .ok (.getfield 20, 3) := by decide +kernel
theorem dX12_isWoman_13 : decode cX12_isWoman 13 = .ok (.iconst 4, 1) := by decide +kernel
theorem dX12_isWoman_14 : decode cX12_isWoman 14 = .ok (.iaload, 1) := by decide +kernel
theorem dX12_isWoman_15 : decode cX12_isWoman 15 = .ok (.iconst 1, 1) := by decide +kernel
theorem dX12_isWoman_16 : decode cX12_isWoman 16 = .ok (.isub, 1) := by decide +kernel
theorem dX12_isWoman_17 : decode cX12_isWoman 17 = .ok (.invokestatic 150, 3) := by decide +kernel
theorem dX12_isWoman_20 : decode cX12_isWoman 20 = .ok (.ifCond .eq 7, 3) := by decide +kernel
theorem dX12_isWoman_23 : decode cX12_isWoman 23 = .ok (.iconst 1, 1) := by decide +kernel
theorem dX12_isWoman_24 : decode cX12_isWoman 24 = .ok (.goto 4, 3) := by decide +kernel
theorem dX12_isWoman_27 : decode cX12_isWoman 27 = .ok (.iconst 0, 1) := by decide +kernel
theorem dX12_isWoman_28 : decode cX12_isWoman 28 = .ok (.ireturn, 1) := by decide +kernel
theorem dX12_ofHarbour_0 : decode cX12_ofHarbour 0 = .ok (.aload_n 0, 1) := by decide +kernel
theorem dX12_ofHarbour_1 : decode cX12_ofHarbour 1 = .ok (.getfield 20, 3) := by decide +kernel
theorem dX12_ofHarbour_4 : decode cX12_ofHarbour 4 = .ok (.bipush 9, 2) := by decide +kernel
theorem dX12_ofHarbour_6 : decode cX12_ofHarbour 6 = .ok (.iconst 3, 1) := by decide +kernel
theorem dX12_ofHarbour_7 : decode cX12_ofHarbour 7 = .ok (.iload_n 1, 1) := by decide +kernel
theorem dX12_ofHarbour_8 : decode cX12_ofHarbour 8 = .ok (.imul, 1) := by decide +kernel
theorem dX12_ofHarbour_9 : decode cX12_ofHarbour 9 = .ok (.iadd, 1) := by decide +kernel
theorem dX12_ofHarbour_10 : decode cX12_ofHarbour 10 = .ok (.iload_n 2, 1) := by decide +kernel
theorem dX12_ofHarbour_11 : decode cX12_ofHarbour 11 = .ok (.iadd, 1) := by decide +kernel
theorem dX12_ofHarbour_12 : decode cX12_ofHarbour 12 = .ok (.iaload, 1) := by decide +kernel
theorem dX12_ofHarbour_13 : decode cX12_ofHarbour 13 = .ok (.ireturn, 1) := by decide +kernel
theorem dX12_ofWoman_0 : decode cX12_ofWoman 0 = .ok (.aload_n 0, 1) := by decide +kernel
theorem dX12_ofWoman_1 : decode cX12_ofWoman 1 = .ok (.getfield 20, 3) := by decide +kernel
theorem dX12_ofWoman_4 : decode cX12_ofWoman 4 = .ok (.bipush 27, 2) := by decide +kernel
theorem dX12_ofWoman_6 : decode cX12_ofWoman 6 = .ok (.iconst 4, 1) := by decide +kernel
theorem dX12_ofWoman_7 : decode cX12_ofWoman 7 = .ok (.iload_n 1, 1) := by decide +kernel
theorem dX12_ofWoman_8 : decode cX12_ofWoman 8 = .ok (.imul, 1) := by decide +kernel
theorem dX12_ofWoman_9 : decode cX12_ofWoman 9 = .ok (.iadd, 1) := by decide +kernel
theorem dX12_ofWoman_10 : decode cX12_ofWoman 10 = .ok (.iload_n 2, 1) := by decide +kernel
theorem dX12_ofWoman_11 : decode cX12_ofWoman 11 = .ok (.iadd, 1) := by decide +kernel
theorem dX12_ofWoman_12 : decode cX12_ofWoman 12 = .ok (.iaload, 1) := by decide +kernel
theorem dX12_ofWoman_13 : decode cX12_ofWoman 13 = .ok (.ireturn, 1) := by decide +kernel
theorem dX12_womenIn_0 : decode cX12_womenIn 0 = .ok (.iconst 0, 1) := by decide +kernel
theorem dX12_womenIn_1 : decode cX12_womenIn 1 = .ok (.istore_n 2, 1) := by decide +kernel
theorem dX12_womenIn_2 : decode cX12_womenIn 2 = .ok (.iconst 0, 1) := by decide +kernel
theorem dX12_womenIn_3 : decode cX12_womenIn 3 = .ok (.istore_n 3, 1) := by decide +kernel
theorem dX12_womenIn_4 : decode cX12_womenIn 4 = .ok (.iload_n 3, 1) := by decide +kernel
theorem dX12_womenIn_5 : decode cX12_womenIn 5 = .ok (.aload_n 0, 1) := by decide +kernel
theorem dX12_womenIn_6 : decode cX12_womenIn 6 = .ok (.getfield 20, 3) := by decide +kernel
theorem dX12_womenIn_9 : decode cX12_womenIn 9 = .ok (.iconst 4, 1) := by decide +kernel
theorem dX12_womenIn_10 : decode cX12_womenIn 10 = .ok (.iaload, 1) := by decide +kernel
theorem dX12_womenIn_11 : decode cX12_womenIn 11 = .ok (.if_icmp .ge 29, 3) := by decide +kernel
theorem dX12_womenIn_14 : decode cX12_womenIn 14 = .ok (.iload_n 2, 1) := by decide +kernel
theorem dX12_womenIn_15 : decode cX12_womenIn 15 = .ok (.aload_n 0, 1) := by decide +kernel
theorem dX12_womenIn_16 : decode cX12_womenIn 16 = .ok (.iload_n 3, 1) := by decide +kernel
theorem dX12_womenIn_17 : decode cX12_womenIn 17 = .ok (.iconst 1, 1) := by decide +kernel
theorem dX12_womenIn_18 : decode cX12_womenIn 18 = .ok (.invokevirtual 266, 3) := by decide +kernel
theorem dX12_womenIn_21 : decode cX12_womenIn 21 = .ok (.iload_n 1, 1) := by decide +kernel
theorem dX12_womenIn_22 : decode cX12_womenIn 22 = .ok (.if_icmp .ne 9, 3) := by decide +kernel
theorem dX12_womenIn_25 : decode cX12_womenIn 25 = .ok (.iconst 1, 1) := by decide +kernel
theorem dX12_womenIn_26 : decode cX12_womenIn 26 = .ok (.iload_n 3, 1) := by decide +kernel
theorem dX12_womenIn_27 : decode cX12_womenIn 27 = .ok (.ishl, 1) := by decide +kernel
theorem dX12_womenIn_28 : decode cX12_womenIn 28 = .ok (.goto 4, 3) := by decide +kernel
theorem dX12_womenIn_31 : decode cX12_womenIn 31 = .ok (.iconst 0, 1) := by decide +kernel
theorem dX12_womenIn_32 : decode cX12_womenIn 32 = .ok (.ior, 1) := by decide +kernel
theorem dX12_womenIn_33 : decode cX12_womenIn 33 = .ok (.istore_n 2, 1) := by decide +kernel
theorem dX12_womenIn_34 : decode cX12_womenIn 34 = .ok (.iinc 3 1, 3) := by decide +kernel
theorem dX12_womenIn_37 : decode cX12_womenIn 37 = .ok (.goto (-33), 3) := by decide +kernel
theorem dX12_womenIn_40 : decode cX12_womenIn 40 = .ok (.iload_n 2, 1) := by decide +kernel
theorem dX12_womenIn_41 : decode cX12_womenIn 41 = .ok (.ireturn, 1) := by decide +kernel
theorem dX12_harbour_0 : decode cX12_harbour 0 = .ok (.aload_n 0, 1) := by decide +kernel
theorem dX12_harbour_1 : decode cX12_harbour 1 = .ok (.invokevirtual 168, 3) := by decide +kernel
theorem dX12_harbour_4 : decode cX12_harbour 4 = .ok (.aload_n 0, 1) := by decide +kernel
theorem dX12_harbour_5 : decode cX12_harbour 5 = .ok (.iload_n 1, 1) := by decide +kernel
theorem dX12_harbour_6 : decode cX12_harbour 6 = .ok (.invokevirtual 269, 3) := by decide +kernel
theorem dX12_harbour_9 : decode cX12_harbour 9 = .ok (.ifCond .eq 12, 3) := by decide +kernel
theorem dX12_harbour_12 : decode cX12_harbour 12 = .ok (.iload_n 2, 1) := by decide +kernel
theorem dX12_harbour_13 : decode cX12_harbour 13 = .ok (.iconst 0, 1) := by decide +kernel
theorem dX12_harbour_14 : decode cX12_harbour 14 = .ok (.iconst 3, 1) := by decide +kernel
theorem dX12_harbour_15 : decode cX12_harbour 15 = .ok (.invokestatic 150, 3) := by decide +kernel
theorem dX12_harbour_18 : decode cX12_harbour 18 = .ok (.ifCond .ne 9, 3) := by decide +kernel
theorem dX12_harbour_21 : decode cX12_harbour 21 = .ok (.aload_n 0, 1) := by decide +kernel
theorem dX12_harbour_22 : decode cX12_harbour 22 = .ok (.iconst 1, 1) := by decide +kernel
theorem dX12_harbour_23 : decode cX12_harbour 23 = .ok (.invokevirtual 171, 3) := by decide +kernel
theorem dX12_harbour_26 : decode cX12_harbour 26 = .ok (.ireturn, 1) := by decide +kernel
theorem dX12_harbour_27 : decode cX12_harbour 27 = .ok (.iload_n 2, 1) := by decide +kernel
theorem dX12_harbour_28 : decode cX12_harbour 28 = .ok (.iconst 3, 1) := by decide +kernel
theorem dX12_harbour_29 : decode cX12_harbour 29 = .ok (.if_icmp .ge 12, 3) := by decide +kernel
theorem dX12_harbour_32 : decode cX12_harbour 32 = .ok (.aload_n 0, 1) := by decide +kernel
theorem dX12_harbour_33 : decode cX12_harbour 33 = .ok (.iload_n 1, 1) := by decide +kernel
theorem dX12_harbour_34 : decode cX12_harbour 34 = .ok (.iload_n 2, 1) := by decide +kernel
theorem dX12_harbour_35 : decode cX12_harbour 35 = .ok (.invokevirtual 272, 3) := by decide +kernel
theorem dX12_harbour_38 : decode cX12_harbour 38 = .ok (.goto 8, 3) := by decide +kernel
theorem dX12_harbour_41 : decode cX12_harbour 41 = .ok (.aload_n 0, 1) := by decide +kernel
theorem dX12_harbour_42 : decode cX12_harbour 42 = .ok (.iload_n 1, 1) := by decide +kernel
theorem dX12_harbour_43 : decode cX12_harbour 43 = .ok (.invokevirtual 275, 3) := by decide +kernel
theorem dX12_harbour_46 : decode cX12_harbour 46 = .ok (.ireturn, 1) := by decide +kernel
theorem dX12_rivalsOf_0 : decode cX12_rivalsOf 0 = .ok (.iconst 0, 1) := by decide +kernel
theorem dX12_rivalsOf_1 : decode cX12_rivalsOf 1 = .ok (.istore_n 2, 1) := by decide +kernel
theorem dX12_rivalsOf_2 : decode cX12_rivalsOf 2 = .ok (.iconst 0, 1) := by decide +kernel
theorem dX12_rivalsOf_3 : decode cX12_rivalsOf 3 = .ok (.istore_n 3, 1) := by decide +kernel
theorem dX12_rivalsOf_4 : decode cX12_rivalsOf 4 = .ok (.iload_n 3, 1) := by decide +kernel
theorem dX12_rivalsOf_5 : decode cX12_rivalsOf 5 = .ok (.aload_n 0, 1) := by decide +kernel
theorem dX12_rivalsOf_6 : decode cX12_rivalsOf 6 = .ok (.getfield 20, 3) := by decide +kernel
theorem dX12_rivalsOf_9 : decode cX12_rivalsOf 9 = .ok (.iconst 5, 1) := by decide +kernel
theorem dX12_rivalsOf_10 : decode cX12_rivalsOf 10 = .ok (.iaload, 1) := by decide +kernel
theorem dX12_rivalsOf_11 : decode cX12_rivalsOf 11 = .ok (.if_icmp .ge 32, 3) := by decide +kernel
theorem dX12_rivalsOf_14 : decode cX12_rivalsOf 14 = .ok (.iload_n 2, 1) := by decide +kernel
theorem dX12_rivalsOf_15 : decode cX12_rivalsOf 15 = .ok (.aload_n 0, 1) := by decide +kernel
theorem dX12_rivalsOf_16 : decode cX12_rivalsOf 16 = .ok (.getfield 20, 3) := by decide +kernel
theorem dX12_rivalsOf_19 : decode cX12_rivalsOf 19 = .ok (.bipush 59, 2) := by decide +kernel
theorem dX12_rivalsOf_21 : decode cX12_rivalsOf 21 = .ok (.iconst 2, 1) := by decide +kernel
theorem dX12_rivalsOf_22 : decode cX12_rivalsOf 22 = .ok (.iload_n 3, 1) := by decide +kernel
theorem dX12_rivalsOf_23 : decode cX12_rivalsOf 23 = .ok (.imul, 1) := by decide +kernel
theorem dX12_rivalsOf_24 : decode cX12_rivalsOf 24 = .ok (.iadd, 1) := by decide +kernel
theorem dX12_rivalsOf_25 : decode cX12_rivalsOf 25 = .ok (.iaload, 1) := by decide +kernel
theorem dX12_rivalsOf_26 : decode cX12_rivalsOf 26 = .ok (.iload_n 1, 1) := by decide +kernel
theorem dX12_rivalsOf_27 : decode cX12_rivalsOf 27 = .ok (.if_icmp .ne 7, 3) := by decide +kernel
theorem dX12_rivalsOf_30 : decode cX12_rivalsOf 30 = .ok (.iconst 1, 1) := by decide +kernel
theorem dX12_rivalsOf_31 : decode cX12_rivalsOf 31 = .ok (.goto 4, 3) := by decide +kernel
theorem dX12_rivalsOf_34 : decode cX12_rivalsOf 34 = .ok (.iconst 0, 1) := by decide +kernel
theorem dX12_rivalsOf_35 : decode cX12_rivalsOf 35 = .ok (.iadd, 1) := by decide +kernel
theorem dX12_rivalsOf_36 : decode cX12_rivalsOf 36 = .ok (.istore_n 2, 1) := by decide +kernel
theorem dX12_rivalsOf_37 : decode cX12_rivalsOf 37 = .ok (.iinc 3 1, 3) := by decide +kernel
theorem dX12_rivalsOf_40 : decode cX12_rivalsOf 40 = .ok (.goto (-36), 3) := by decide +kernel
theorem dX12_rivalsOf_43 : decode cX12_rivalsOf 43 = .ok (.iload_n 2, 1) := by decide +kernel
theorem dX12_rivalsOf_44 : decode cX12_rivalsOf 44 = .ok (.ireturn, 1) := by decide +kernel
theorem dX12_woman_0 : decode cX12_woman 0 = .ok (.aload_n 0, 1) := by decide +kernel
theorem dX12_woman_1 : decode cX12_woman 1 = .ok (.invokevirtual 168, 3) := by decide +kernel
theorem dX12_woman_4 : decode cX12_woman 4 = .ok (.aload_n 0, 1) := by decide +kernel
theorem dX12_woman_5 : decode cX12_woman 5 = .ok (.iload_n 1, 1) := by decide +kernel
theorem dX12_woman_6 : decode cX12_woman 6 = .ok (.invokevirtual 278, 3) := by decide +kernel
theorem dX12_woman_9 : decode cX12_woman 9 = .ok (.ifCond .eq 12, 3) := by decide +kernel
theorem dX12_woman_12 : decode cX12_woman 12 = .ok (.iload_n 2, 1) := by decide +kernel
theorem dX12_woman_13 : decode cX12_woman 13 = .ok (.iconst 0, 1) := by decide +kernel
theorem dX12_woman_14 : decode cX12_woman 14 = .ok (.iconst 5, 1) := by decide +kernel
theorem dX12_woman_15 : decode cX12_woman 15 = .ok (.invokestatic 150, 3) := by decide +kernel
theorem dX12_woman_18 : decode cX12_woman 18 = .ok (.ifCond .ne 9, 3) := by decide +kernel
theorem dX12_woman_21 : decode cX12_woman 21 = .ok (.aload_n 0, 1) := by decide +kernel
theorem dX12_woman_22 : decode cX12_woman 22 = .ok (.iconst 1, 1) := by decide +kernel
theorem dX12_woman_23 : decode cX12_woman 23 = .ok (.invokevirtual 171, 3) := by decide +kernel
theorem dX12_woman_26 : decode cX12_woman 26 = .ok (.ireturn, 1) := by decide +kernel
theorem dX12_woman_27 : decode cX12_woman 27 = .ok (.iload_n 2, 1) := by decide +kernel
theorem dX12_woman_28 : decode cX12_woman 28 = .ok (.iconst 4, 1) := by decide +kernel
theorem dX12_woman_29 : decode cX12_woman 29 = .ok (.if_icmp .ge 12, 3) := by decide +kernel
theorem dX12_woman_32 : decode cX12_woman 32 = .ok (.aload_n 0, 1) := by decide +kernel
theorem dX12_woman_33 : decode cX12_woman 33 = .ok (.iload_n 1, 1) := by decide +kernel
theorem dX12_woman_34 : decode cX12_woman 34 = .ok (.iload_n 2, 1) := by decide +kernel
theorem dX12_woman_35 : decode cX12_woman 35 = .ok (.invokevirtual 266, 3) := by decide +kernel
theorem dX12_woman_38 : decode cX12_woman 38 = .ok (.goto 26, 3) := by decide +kernel
theorem dX12_woman_41 : decode cX12_woman 41 = .ok (.iload_n 2, 1) := by decide +kernel
theorem dX12_woman_42 : decode cX12_woman 42 = .ok (.iconst 4, 1) := by decide +kernel
theorem dX12_woman_43 : decode cX12_woman 43 = .ok (.if_icmp .ne 11, 3) := by decide +kernel
theorem dX12_woman_46 : decode cX12_woman 46 = .ok (.aload_n 0, 1) := by decide +kernel
theorem dX12_woman_47 : decode cX12_woman 47 = .ok (.iload_n 1, 1) := by decide +kernel
theorem dX12_woman_48 : decode cX12_woman 48 = .ok (.invokevirtual 281, 3) := by decide +kernel
theorem dX12_woman_51 : decode cX12_woman 51 = .ok (.goto 13, 3) := by decide +kernel
theorem dX12_woman_54 : decode cX12_woman 54 = .ok (.aload_n 0, 1) := by decide +kernel
theorem dX12_woman_55 : decode cX12_woman 55 = .ok (.getfield 26, 3) := by decide +kernel
theorem dX12_woman_58 : decode cX12_woman 58 = .ok (.iconst 4, 1) := by decide +kernel
theorem dX12_woman_59 : decode cX12_woman 59 = .ok (.iaload, 1) := by decide +kernel
theorem dX12_woman_60 : decode cX12_woman 60 = .ok (.iload_n 1, 1) := by decide +kernel
theorem dX12_woman_61 : decode cX12_woman 61 = .ok (.ishr, 1) := by decide +kernel
theorem dX12_woman_62 : decode cX12_woman 62 = .ok (.iconst 1, 1) := by decide +kernel
theorem dX12_woman_63 : decode cX12_woman 63 = .ok (.iand, 1) := by decide +kernel
theorem dX12_woman_64 : decode cX12_woman 64 = .ok (.ireturn, 1) := by decide +kernel
theorem dX12_isLanding_0 : decode cX12_isLanding 0 = .ok (.iload_n 0, 1) := by decide +kernel
theorem dX12_isLanding_1 : decode cX12_isLanding 1 = .ok (.iconst 0, 1) := by decide +kernel
theorem dX12_isLanding_2 : decode cX12_isLanding 2 = .ok (.bipush 30, 2) := by decide +kernel
theorem dX12_isLanding_4 : decode cX12_isLanding 4 = .ok (.invokestatic 150, 3) := by decide +kernel
theorem dX12_isLanding_7 : decode cX12_isLanding 7 = .ok (.ireturn, 1) := by decide +kernel
theorem dX12_why_0 : decode cX12_why 0 = .ok (.iload_n 1, 1) := by decide +kernel
theorem dX12_why_1 : decode cX12_why 1 = .ok (.ifCond .ne 7, 3) := by decide +kernel
theorem dX12_why_4 : decode cX12_why 4 = .ok (.iconst 1, 1) := by decide +kernel
theorem dX12_why_5 : decode cX12_why 5 = .ok (.goto 15, 3) := by decide +kernel
theorem dX12_why_8 : decode cX12_why 8 = .ok (.iload_n 2, 1) := by decide +kernel
theorem dX12_why_9 : decode cX12_why 9 = .ok (.invokestatic 284, 3) := by decide +kernel
theorem dX12_why_12 : decode cX12_why 12 = .ok (.ifCond .eq 7, 3) := by decide +kernel
theorem dX12_why_15 : decode cX12_why 15 = .ok (.iconst 0, 1) := by decide +kernel
theorem dX12_why_16 : decode cX12_why 16 = .ok (.goto 4, 3) := by decide +kernel
theorem dX12_why_19 : decode cX12_why 19 = .ok (.iconst 2, 1) := by decide +kernel
theorem dX12_why_20 : decode cX12_why 20 = .ok (.ireturn, 1) := by decide +kernel
theorem dX12_ageAt_0 : decode cX12_ageAt 0 = .ok (.iload_n 2, 1) := by decide +kernel
theorem dX12_ageAt_1 : decode cX12_ageAt 1 = .ok (.iload_n 3, 1) := by decide +kernel
theorem dX12_ageAt_2 : decode cX12_ageAt 2 = .ok (.imul, 1) := by decide +kernel
theorem dX12_ageAt_3 : decode cX12_ageAt 3 = .ok (.aload_n 0, 1) := by decide +kernel
theorem dX12_ageAt_4 : decode cX12_ageAt 4 = .ok (.iload_n 1, 1) := by decide +kernel
theorem dX12_ageAt_5 : decode cX12_ageAt 5 = .ok (.iconst 3, 1) := by decide +kernel
theorem dX12_ageAt_6 : decode cX12_ageAt 6 = .ok (.invokevirtual 266, 3) := by decide +kernel
theorem dX12_ageAt_9 : decode cX12_ageAt 9 = .ok (.isub, 1) := by decide +kernel
theorem dX12_ageAt_10 : decode cX12_ageAt 10 = .ok (.ireturn, 1) := by decide +kernel
theorem dX12_age_0 : decode cX12_age 0 = .ok (.aload_n 0, 1) := by decide +kernel
theorem dX12_age_1 : decode cX12_age 1 = .ok (.invokevirtual 168, 3) := by decide +kernel
theorem dX12_age_4 : decode cX12_age 4 = .ok (.aload_n 0, 1) := by decide +kernel
theorem dX12_age_5 : decode cX12_age 5 = .ok (.aload_n 0, 1) := by decide +kernel
theorem dX12_age_6 : decode cX12_age 6 = .ok (.iload_n 1, 1) := by decide +kernel
theorem dX12_age_7 : decode cX12_age 7 = .ok (.invokevirtual 278, 3) := by decide +kernel
theorem dX12_age_10 : decode cX12_age 10 = .ok (.iload_n 2, 1) := by decide +kernel
theorem dX12_age_11 : decode cX12_age 11 = .ok (.invokevirtual 287, 3) := by decide +kernel
theorem dX12_age_14 : decode cX12_age 14 = .ok (.istore_n 3, 1) := by decide +kernel
theorem dX12_age_15 : decode cX12_age 15 = .ok (.iload_n 3, 1) := by decide +kernel
theorem dX12_age_16 : decode cX12_age 16 = .ok (.ifCond .ne 16, 3) := by decide +kernel
theorem dX12_age_19 : decode cX12_age 19 = .ok (.aload_n 0, 1) := by decide +kernel
theorem dX12_age_20 : decode cX12_age 20 = .ok (.iload_n 1, 1) := by decide +kernel
theorem dX12_age_21 : decode cX12_age 21 = .ok (.iload_n 2, 1) := by decide +kernel
theorem dX12_age_22 : decode cX12_age 22 = .ok (.aload_n 0, 1) := by decide +kernel
theorem dX12_age_23 : decode cX12_age 23 = .ok (.getfield 20, 3) := by decide +kernel
theorem dX12_age_26 : decode cX12_age 26 = .ok (.iconst 0, 1) := by decide +kernel
theorem dX12_age_27 : decode cX12_age 27 = .ok (.iaload, 1) := by decide +kernel
theorem dX12_age_28 : decode cX12_age 28 = .ok (.invokevirtual 291, 3) := by decide +kernel
theorem dX12_age_31 : decode cX12_age 31 = .ok (.ireturn, 1) := by decide +kernel
theorem dX12_age_32 : decode cX12_age 32 = .ok (.aload_n 0, 1) := by decide +kernel
theorem dX12_age_33 : decode cX12_age 33 = .ok (.iload_n 3, 1) := by decide +kernel
theorem dX12_age_34 : decode cX12_age 34 = .ok (.putfield 62, 3) := by decide +kernel
theorem dX12_age_37 : decode cX12_age 37 = .ok (.sipush (-1000), 3) := by decide +kernel
theorem dX12_age_40 : decode cX12_age 40 = .ok (.ireturn, 1) := by decide +kernel
theorem dX12_heartAt_0 : decode cX12_heartAt 0 = .ok (.aload_n 0, 1) := by decide +kernel
theorem dX12_heartAt_1 : decode cX12_heartAt 1 = .ok (.iload_n 1, 1) := by decide +kernel
theorem dX12_heartAt_2 : decode cX12_heartAt 2 = .ok (.iload_n 2, 1) := by decide +kernel
theorem dX12_heartAt_3 : decode cX12_heartAt 3 = .ok (.iload_n 3, 1) := by decide +kernel
theorem dX12_heartAt_4 : decode cX12_heartAt 4 = .ok (.invokevirtual 291, 3) := by decide +kernel
theorem dX12_heartAt_7 : decode cX12_heartAt 7 = .ok (.bipush 16, 2) := by decide +kernel
theorem dX12_heartAt_9 : decode cX12_heartAt 9 = .ok (.bipush 40, 2) := by decide +kernel
theorem dX12_heartAt_11 : decode cX12_heartAt 11 = .ok (.invokestatic 150, 3) := by decide +kernel
theorem dX12_heartAt_14 : decode cX12_heartAt 14 = .ok (.ifCond .ne 5, 3) := by decide +kernel
theorem dX12_heartAt_17 : decode cX12_heartAt 17 = .ok (.iconst 0, 1) := by decide +kernel
theorem dX12_heartAt_18 : decode cX12_heartAt 18 = .ok (.ireturn, 1) := by decide +kernel
theorem dX12_heartAt_19 : decode cX12_heartAt 19 = .ok (.aload_n 0, 1) := by decide +kernel
theorem dX12_heartAt_20 : decode cX12_heartAt 20 = .ok (.iload_n 1, 1) := by decide +kernel
theorem dX12_heartAt_21 : decode cX12_heartAt 21 = .ok (.iconst 1, 1) := by decide +kernel
theorem dX12_heartAt_22 : decode cX12_heartAt 22 = .ok (.invokevirtual 266, 3) := by decide +kernel
theorem dX12_heartAt_25 : decode cX12_heartAt 25 = .ok (.istore 4, 2) := by decide +kernel
theorem dX12_heartAt_27 : decode cX12_heartAt 27 = .ok (.aload_n 0, 1) := by decide +kernel
theorem dX12_heartAt_28 : decode cX12_heartAt 28 = .ok (.iload_n 1, 1) := by decide +kernel
theorem dX12_heartAt_29 : decode cX12_heartAt 29 = .ok (.iconst 0, 1) := by decide +kernel
theorem dX12_heartAt_30 : decode cX12_heartAt 30 = .ok (.invokevirtual 266, 3) := by decide +kernel
theorem dX12_heartAt_33 : decode cX12_heartAt 33 = .ok (.istore 5, 2) := by decide +kernel
theorem dX12_heartAt_35 : decode cX12_heartAt 35 = .ok (.iload 5, 2) := by decide +kernel
theorem dX12_heartAt_37 : decode cX12_heartAt 37 = .ok (.iconst 1, 1) := by decide +kernel
theorem dX12_heartAt_38 : decode cX12_heartAt 38 = .ok (.if_icmp .ne 12, 3) := by decide +kernel
theorem dX12_heartAt_41 : decode cX12_heartAt 41 = .ok (.aload_n 0, 1) := by decide +kernel
theorem dX12_heartAt_42 : decode cX12_heartAt 42 = .ok (.iload_n 1, 1) := by decide +kernel
theorem dX12_heartAt_43 : decode cX12_heartAt 43 = .ok (.iconst 2, 1) := by decide +kernel
theorem dX12_heartAt_44 : decode cX12_heartAt 44 = .ok (.invokevirtual 266, 3) := by decide +kernel
theorem dX12_heartAt_47 : decode cX12_heartAt 47 = .ok (.goto 25, 3) := by decide +kernel
theorem dX12_heartAt_50 : decode cX12_heartAt 50 = .ok (.aload_n 0, 1) := by decide +kernel
theorem dX12_heartAt_51 : decode cX12_heartAt 51 = .ok (.iload_n 1, 1) := by decide +kernel
theorem dX12_heartAt_52 : decode cX12_heartAt 52 = .ok (.iconst 2, 1) := by decide +kernel
theorem dX12_heartAt_53 : decode cX12_heartAt 53 = .ok (.invokevirtual 266, 3) := by decide +kernel
theorem dX12_heartAt_56 : decode cX12_heartAt 56 = .ok (.sipush 200, 3) := by decide +kernel
theorem dX12_heartAt_59 : decode cX12_heartAt 59 = .ok (.aload_n 0, 1) := by decide +kernel
theorem dX12_heartAt_60 : decode cX12_heartAt 60 = .ok (.iload 4, 2) := by decide +kernel
theorem dX12_heartAt_62 : decode cX12_heartAt 62 = .ok (.iconst 0, 1) := by decide +kernel
theorem dX12_heartAt_63 : decode cX12_heartAt 63 = .ok (.invokevirtual 272, 3) := by decide +kernel
theorem dX12_heartAt_66 : decode cX12_heartAt 66 = .ok (.isub, 1) := by decide +kernel
theorem dX12_heartAt_67 : decode cX12_heartAt 67 = .ok (.imul, 1) := by decide +kernel
theorem dX12_heartAt_68 : decode cX12_heartAt 68 = .ok (.sipush 200, 3) := by decide +kernel
theorem dX12_heartAt_71 : decode cX12_heartAt 71 = .ok (.idiv, 1) := by decide +kernel
theorem dX12_heartAt_72 : decode cX12_heartAt 72 = .ok (.istore 6, 2) := by decide +kernel
theorem dX12_heartAt_74 : decode cX12_heartAt 74 = .ok (.iload 5, 2) := by decide +kernel
theorem dX12_heartAt_76 : decode cX12_heartAt 76 = .ok (.iconst 3, 1) := by decide +kernel
theorem dX12_heartAt_77 : decode cX12_heartAt 77 = .ok (.if_icmp .ne 9, 3) := by decide +kernel
theorem dX12_heartAt_80 : decode cX12_heartAt 80 = .ok (.iload 6, 2) := by decide +kernel
theorem dX12_heartAt_82 : decode cX12_heartAt 82 = .ok (.iconst 2, 1) := by decide +kernel
theorem dX12_heartAt_83 : decode cX12_heartAt 83 = .ok (.idiv, 1) := by decide +kernel
theorem dX12_heartAt_84 : decode cX12_heartAt 84 = .ok (.istore 6, 2) := by decide +kernel
theorem dX12_heartAt_86 : decode cX12_heartAt 86 = .ok (.iload 5, 2) := by decide +kernel
theorem dX12_heartAt_88 : decode cX12_heartAt 88 = .ok (.iconst 2, 1) := by decide +kernel
theorem dX12_heartAt_89 : decode cX12_heartAt 89 = .ok (.if_icmp .ne 28, 3) := by decide +kernel
theorem dX12_heartAt_92 : decode cX12_heartAt 92 = .ok (.aload_n 0, 1) := by decide +kernel
theorem dX12_heartAt_93 : decode cX12_heartAt 93 = .ok (.iload 4, 2) := by decide +kernel
theorem dX12_heartAt_95 : decode cX12_heartAt 95 = .ok (.iconst 1, 1) := by decide +kernel
theorem dX12_heartAt_96 : decode cX12_heartAt 96 = .ok (.invokevirtual 272, 3) := by decide +kernel
theorem dX12_heartAt_99 : decode cX12_heartAt 99 = .ok (.iconst 2, 1) := by decide +kernel
theorem dX12_heartAt_100 : decode cX12_heartAt 100 = .ok (.idiv, 1) := by decide +kernel
theorem dX12_heartAt_101 : decode cX12_heartAt 101 = .ok (.iload 6, 2) := by decide +kernel
theorem dX12_heartAt_103 : decode cX12_heartAt 103 = .ok (.if_icmp .le 14, 3) := by decide +kernel
theorem dX12_heartAt_106 : decode cX12_heartAt 106 = .ok (.aload_n 0, 1) := by decide +kernel
theorem dX12_heartAt_107 : decode cX12_heartAt 107 = .ok (.iload 4, 2) := by decide +kernel
theorem dX12_heartAt_109 : decode cX12_heartAt 109 = .ok (.iconst 1, 1) := by decide +kernel
theorem dX12_heartAt_110 : decode cX12_heartAt 110 = .ok (.invokevirtual 272, 3) := by decide +kernel
theorem dX12_heartAt_113 : decode cX12_heartAt 113 = .ok (.iconst 2, 1) := by decide +kernel
theorem dX12_heartAt_114 : decode cX12_heartAt 114 = .ok (.idiv, 1) := by decide +kernel
theorem dX12_heartAt_115 : decode cX12_heartAt 115 = .ok (.istore 6, 2) := by decide +kernel
theorem dX12_heartAt_117 : decode cX12_heartAt 117 = .ok (.iload 6, 2) := by decide +kernel
theorem dX12_heartAt_119 : decode cX12_heartAt 119 = .ok (.ireturn, 1) := by decide +kernel
theorem dX12_loveAt_0 : decode cX12_loveAt 0 = .ok (.aload_n 0, 1) := by decide +kernel
theorem dX12_loveAt_1 : decode cX12_loveAt 1 = .ok (.iload_n 1, 1) := by decide +kernel
theorem dX12_loveAt_2 : decode cX12_loveAt 2 = .ok (.iload_n 2, 1) := by decide +kernel
theorem dX12_loveAt_3 : decode cX12_loveAt 3 = .ok (.iload_n 3, 1) := by decide +kernel
theorem dX12_loveAt_4 : decode cX12_loveAt 4 = .ok (.invokevirtual 295, 3) := by decide +kernel
theorem dX12_loveAt_7 : decode cX12_loveAt 7 = .ok (.istore 4, 2) := by decide +kernel
theorem dX12_loveAt_9 : decode cX12_loveAt 9 = .ok (.iconst 0, 1) := by decide +kernel
theorem dX12_loveAt_10 : decode cX12_loveAt 10 = .ok (.istore 5, 2) := by decide +kernel
theorem dX12_loveAt_12 : decode cX12_loveAt 12 = .ok (.iload 5, 2) := by decide +kernel
theorem dX12_loveAt_14 : decode cX12_loveAt 14 = .ok (.aload_n 0, 1) := by decide +kernel
theorem dX12_loveAt_15 : decode cX12_loveAt 15 = .ok (.getfield 20, 3) := by decide +kernel
theorem dX12_loveAt_18 : decode cX12_loveAt 18 = .ok (.iconst 5, 1) := by decide +kernel
theorem dX12_loveAt_19 : decode cX12_loveAt 19 = .ok (.iaload, 1) := by decide +kernel
theorem dX12_loveAt_20 : decode cX12_loveAt 20 = .ok (.if_icmp .ge 50, 3) := by decide +kernel
theorem dX12_loveAt_23 : decode cX12_loveAt 23 = .ok (.aload_n 0, 1) := by decide +kernel
theorem dX12_loveAt_24 : decode cX12_loveAt 24 = .ok (.getfield 20, 3) := by decide +kernel
theorem dX12_loveAt_27 : decode cX12_loveAt 27 = .ok (.bipush 59, 2) := by decide +kernel
theorem dX12_loveAt_29 : decode cX12_loveAt 29 = .ok (.iconst 2, 1) := by decide +kernel
theorem dX12_loveAt_30 : decode cX12_loveAt 30 = .ok (.iload 5, 2) := by decide +kernel
theorem dX12_loveAt_32 : decode cX12_loveAt 32 = .ok (.imul, 1) := by decide +kernel
theorem dX12_loveAt_33 : decode cX12_loveAt 33 = .ok (.iadd, 1) := by decide +kernel
theorem dX12_loveAt_34 : decode cX12_loveAt 34 = .ok (.iaload, 1) := by decide +kernel
theorem dX12_loveAt_35 : decode cX12_loveAt 35 = .ok (.iload_n 1, 1) := by decide +kernel
theorem dX12_loveAt_36 : decode cX12_loveAt 36 = .ok (.if_icmp .ne 28, 3) := by decide +kernel
theorem dX12_loveAt_39 : decode cX12_loveAt 39 = .ok (.iload 4, 2) := by decide +kernel
theorem dX12_loveAt_41 : decode cX12_loveAt 41 = .ok (.bipush 100, 2) := by decide +kernel
theorem dX12_loveAt_43 : decode cX12_loveAt 43 = .ok (.aload_n 0, 1) := by decide +kernel
theorem dX12_loveAt_44 : decode cX12_loveAt 44 = .ok (.getfield 20, 3) := by decide +kernel
theorem dX12_loveAt_47 : decode cX12_loveAt 47 = .ok (.bipush 59, 2) := by decide +kernel
theorem dX12_loveAt_49 : decode cX12_loveAt 49 = .ok (.iconst 2, 1) := by decide +kernel
theorem dX12_loveAt_50 : decode cX12_loveAt 50 = .ok (.iload 5, 2) := by decide +kernel
theorem dX12_loveAt_52 : decode cX12_loveAt 52 = .ok (.imul, 1) := by decide +kernel
theorem dX12_loveAt_53 : decode cX12_loveAt 53 = .ok (.iadd, 1) := by decide +kernel
theorem dX12_loveAt_54 : decode cX12_loveAt 54 = .ok (.iconst 1, 1) := by decide +kernel
theorem dX12_loveAt_55 : decode cX12_loveAt 55 = .ok (.iadd, 1) := by decide +kernel
theorem dX12_loveAt_56 : decode cX12_loveAt 56 = .ok (.iaload, 1) := by decide +kernel
theorem dX12_loveAt_57 : decode cX12_loveAt 57 = .ok (.isub, 1) := by decide +kernel
theorem dX12_loveAt_58 : decode cX12_loveAt 58 = .ok (.imul, 1) := by decide +kernel
theorem dX12_loveAt_59 : decode cX12_loveAt 59 = .ok (.bipush 100, 2) := by decide +kernel
theorem dX12_loveAt_61 : decode cX12_loveAt 61 = .ok (.idiv, 1) := by decide +kernel
theorem dX12_loveAt_62 : decode cX12_loveAt 62 = .ok (.istore 4, 2) := by decide +kernel
theorem dX12_loveAt_64 : decode cX12_loveAt 64 = .ok (.iinc 5 1, 3) := by decide +kernel
theorem dX12_loveAt_67 : decode cX12_loveAt 67 = .ok (.goto (-55), 3) := by decide +kernel
theorem dX12_loveAt_70 : decode cX12_loveAt 70 = .ok (.iload 4, 2) := by decide +kernel
theorem dX12_loveAt_72 : decode cX12_loveAt 72 = .ok (.ireturn, 1) := by decide +kernel
theorem dX12_loveOf_0 : decode cX12_loveOf 0 = .ok (.aload_n 0, 1) := by decide +kernel
theorem dX12_loveOf_1 : decode cX12_loveOf 1 = .ok (.iload_n 1, 1) := by decide +kernel
theorem dX12_loveOf_2 : decode cX12_loveOf 2 = .ok (.iload_n 2, 1) := by decide +kernel
theorem dX12_loveOf_3 : decode cX12_loveOf 3 = .ok (.aload_n 0, 1) := by decide +kernel
theorem dX12_loveOf_4 : decode cX12_loveOf 4 = .ok (.getfield 20, 3) := by decide +kernel
theorem dX12_loveOf_7 : decode cX12_loveOf 7 = .ok (.iconst 0, 1) := by decide +kernel
theorem dX12_loveOf_8 : decode cX12_loveOf 8 = .ok (.iaload, 1) := by decide +kernel
theorem dX12_loveOf_9 : decode cX12_loveOf 9 = .ok (.invokevirtual 298, 3) := by decide +kernel
theorem dX12_loveOf_12 : decode cX12_loveOf 12 = .ok (.ireturn, 1) := by decide +kernel
theorem dX12_love_0 : decode cX12_love 0 = .ok (.aload_n 0, 1) := by decide +kernel
theorem dX12_love_1 : decode cX12_love 1 = .ok (.invokevirtual 168, 3) := by decide +kernel
theorem dX12_love_4 : decode cX12_love 4 = .ok (.aload_n 0, 1) := by decide +kernel
theorem dX12_love_5 : decode cX12_love 5 = .ok (.aload_n 0, 1) := by decide +kernel
theorem dX12_love_6 : decode cX12_love 6 = .ok (.iload_n 1, 1) := by decide +kernel
theorem dX12_love_7 : decode cX12_love 7 = .ok (.invokevirtual 278, 3) := by decide +kernel
theorem dX12_love_10 : decode cX12_love 10 = .ok (.iload_n 2, 1) := by decide +kernel
theorem dX12_love_11 : decode cX12_love 11 = .ok (.invokevirtual 287, 3) := by decide +kernel
theorem dX12_love_14 : decode cX12_love 14 = .ok (.istore_n 3, 1) := by decide +kernel
theorem dX12_love_15 : decode cX12_love 15 = .ok (.iload_n 3, 1) := by decide +kernel
theorem dX12_love_16 : decode cX12_love 16 = .ok (.ifCond .eq 11, 3) := by decide +kernel
theorem dX12_love_19 : decode cX12_love 19 = .ok (.aload_n 0, 1) := by decide +kernel
theorem dX12_love_20 : decode cX12_love 20 = .ok (.iload_n 3, 1) := by decide +kernel
theorem dX12_love_21 : decode cX12_love 21 = .ok (.invokevirtual 171, 3) := by decide +kernel
theorem dX12_love_24 : decode cX12_love 24 = .ok (.goto 9, 3) := by decide +kernel
theorem dX12_love_27 : decode cX12_love 27 = .ok (.aload_n 0, 1) := by decide +kernel
theorem dX12_love_28 : decode cX12_love 28 = .ok (.iload_n 1, 1) := by decide +kernel
theorem dX12_love_29 : decode cX12_love 29 = .ok (.iload_n 2, 1) := by decide +kernel
theorem dX12_love_30 : decode cX12_love 30 = .ok (.invokevirtual 301, 3) := by decide +kernel
theorem dX12_love_33 : decode cX12_love 33 = .ok (.ireturn, 1) := by decide +kernel
theorem dX12_alone_0 : decode cX12_alone 0 = .ok (.aload_n 0, 1) := by decide +kernel
theorem dX12_alone_1 : decode cX12_alone 1 = .ok (.invokevirtual 168, 3) := by decide +kernel
theorem dX12_alone_4 : decode cX12_alone 4 = .ok (.aload_n 0, 1) := by decide +kernel
theorem dX12_alone_5 : decode cX12_alone 5 = .ok (.aload_n 0, 1) := by decide +kernel
theorem dX12_alone_6 : decode cX12_alone 6 = .ok (.iload_n 1, 1) := by decide +kernel
theorem dX12_alone_7 : decode cX12_alone 7 = .ok (.invokevirtual 278, 3) := by decide +kernel
theorem dX12_alone_10 : decode cX12_alone 10 = .ok (.iload_n 2, 1) := by decide +kernel
theorem dX12_alone_11 : decode cX12_alone 11 = .ok (.invokevirtual 287, 3) := by decide +kernel
theorem dX12_alone_14 : decode cX12_alone 14 = .ok (.istore_n 3, 1) := by decide +kernel
theorem dX12_alone_15 : decode cX12_alone 15 = .ok (.iload_n 3, 1) := by decide +kernel
theorem dX12_alone_16 : decode cX12_alone 16 = .ok (.ifCond .eq 11, 3) := by decide +kernel
theorem dX12_alone_19 : decode cX12_alone 19 = .ok (.aload_n 0, 1) := by decide +kernel
theorem dX12_alone_20 : decode cX12_alone 20 = .ok (.iload_n 3, 1) := by decide +kernel
theorem dX12_alone_21 : decode cX12_alone 21 = .ok (.invokevirtual 171, 3) := by decide +kernel
theorem dX12_alone_24 : decode cX12_alone 24 = .ok (.goto 15, 3) := by decide +kernel
theorem dX12_alone_27 : decode cX12_alone 27 = .ok (.aload_n 0, 1) := by decide +kernel
theorem dX12_alone_28 : decode cX12_alone 28 = .ok (.iload_n 1, 1) := by decide +kernel
theorem dX12_alone_29 : decode cX12_alone 29 = .ok (.iload_n 2, 1) := by decide +kernel
theorem dX12_alone_30 : decode cX12_alone 30 = .ok (.aload_n 0, 1) := by decide +kernel
theorem dX12_alone_31 : decode cX12_alone 31 = .ok (.getfield 20, 3) := by decide +kernel
theorem dX12_alone_34 : decode cX12_alone 34 = .ok (.iconst 0, 1) := by decide +kernel
theorem dX12_alone_35 : decode cX12_alone 35 = .ok (.iaload, 1) := by decide +kernel
theorem dX12_alone_36 : decode cX12_alone 36 = .ok (.invokevirtual 295, 3) := by decide +kernel
theorem dX12_alone_39 : decode cX12_alone 39 = .ok (.ireturn, 1) := by decide +kernel
theorem dX12_ofAge_0 : decode cX12_ofAge 0 = .ok (.aload_n 0, 1) := by decide +kernel
theorem dX12_ofAge_1 : decode cX12_ofAge 1 = .ok (.invokevirtual 168, 3) := by decide +kernel
theorem dX12_ofAge_4 : decode cX12_ofAge 4 = .ok (.aload_n 0, 1) := by decide +kernel
theorem dX12_ofAge_5 : decode cX12_ofAge 5 = .ok (.iload_n 1, 1) := by decide +kernel
theorem dX12_ofAge_6 : decode cX12_ofAge 6 = .ok (.invokevirtual 278, 3) := by decide +kernel
theorem dX12_ofAge_9 : decode cX12_ofAge 9 = .ok (.ifCond .ne 9, 3) := by decide +kernel
theorem dX12_ofAge_12 : decode cX12_ofAge 12 = .ok (.aload_n 0, 1) := by decide +kernel
theorem dX12_ofAge_13 : decode cX12_ofAge 13 = .ok (.iconst 1, 1) := by decide +kernel
theorem dX12_ofAge_14 : decode cX12_ofAge 14 = .ok (.invokevirtual 171, 3) := by decide +kernel
theorem dX12_ofAge_17 : decode cX12_ofAge 17 = .ok (.ireturn, 1) := by decide +kernel
theorem dX12_ofAge_18 : decode cX12_ofAge 18 = .ok (.iconst 0, 1) := by decide +kernel
theorem dX12_ofAge_19 : decode cX12_ofAge 19 = .ok (.istore_n 2, 1) := by decide +kernel
theorem dX12_ofAge_20 : decode cX12_ofAge 20 = .ok (.iconst 0, 1) := by decide +kernel
theorem dX12_ofAge_21 : decode cX12_ofAge 21 = .ok (.istore_n 3, 1) := by decide +kernel
theorem dX12_ofAge_22 : decode cX12_ofAge 22 = .ok (.iload_n 3, 1) := by decide +kernel
theorem dX12_ofAge_23 : decode cX12_ofAge 23 = .ok (.bipush 30, 2) := by decide +kernel
theorem dX12_ofAge_25 : decode cX12_ofAge 25 = .ok (.if_icmp .gt 41, 3) := by decide +kernel
theorem dX12_ofAge_28 : decode cX12_ofAge 28 = .ok (.iload_n 2, 1) := by decide +kernel
theorem dX12_ofAge_29 : decode cX12_ofAge 29 = .ok (.aload_n 0, 1) := by decide +kernel
theorem dX12_ofAge_30 : decode cX12_ofAge 30 = .ok (.iload_n 1, 1) := by decide +kernel
theorem dX12_ofAge_31 : decode cX12_ofAge 31 = .ok (.iload_n 3, 1) := by decide +kernel
theorem dX12_ofAge_32 : decode cX12_ofAge 32 = .ok (.aload_n 0, 1) := by decide +kernel
theorem dX12_ofAge_33 : decode cX12_ofAge 33 = .ok (.getfield 20, 3) := by decide +kernel
theorem dX12_ofAge_36 : decode cX12_ofAge 36 = .ok (.iconst 0, 1) := by decide +kernel
theorem dX12_ofAge_37 : decode cX12_ofAge 37 = .ok (.iaload, 1) := by decide +kernel
theorem dX12_ofAge_38 : decode cX12_ofAge 38 = .ok (.invokevirtual 291, 3) := by decide +kernel
theorem dX12_ofAge_41 : decode cX12_ofAge 41 = .ok (.bipush 16, 2) := by decide +kernel
theorem dX12_ofAge_43 : decode cX12_ofAge 43 = .ok (.bipush 40, 2) := by decide +kernel
theorem dX12_ofAge_45 : decode cX12_ofAge 45 = .ok (.invokestatic 150, 3) := by decide +kernel
theorem dX12_ofAge_48 : decode cX12_ofAge 48 = .ok (.ifCond .eq 9, 3) := by decide +kernel
theorem dX12_ofAge_51 : decode cX12_ofAge 51 = .ok (.iconst 1, 1) := by decide +kernel
theorem dX12_ofAge_52 : decode cX12_ofAge 52 = .ok (.iload_n 3, 1) := by decide +kernel
theorem dX12_ofAge_53 : decode cX12_ofAge 53 = .ok (.ishl, 1) := by decide +kernel
theorem dX12_ofAge_54 : decode cX12_ofAge 54 = .ok (.goto 4, 3) := by decide +kernel
theorem dX12_ofAge_57 : decode cX12_ofAge 57 = .ok (.iconst 0, 1) := by decide +kernel
theorem dX12_ofAge_58 : decode cX12_ofAge 58 = .ok (.ior, 1) := by decide +kernel
theorem dX12_ofAge_59 : decode cX12_ofAge 59 = .ok (.istore_n 2, 1) := by decide +kernel
theorem dX12_ofAge_60 : decode cX12_ofAge 60 = .ok (.iinc 3 1, 3) := by decide +kernel
theorem dX12_ofAge_63 : decode cX12_ofAge 63 = .ok (.goto (-41), 3) := by decide +kernel
theorem dX12_ofAge_66 : decode cX12_ofAge 66 = .ok (.iload_n 2, 1) := by decide +kernel
theorem dX12_ofAge_67 : decode cX12_ofAge 67 = .ok (.ireturn, 1) := by decide +kernel
theorem dX12_present_0 : decode cX12_present 0 = .ok (.aload_n 0, 1) := by decide +kernel
theorem dX12_present_1 : decode cX12_present 1 = .ok (.invokevirtual 168, 3) := by decide +kernel
theorem dX12_present_4 : decode cX12_present 4 = .ok (.aload_n 0, 1) := by decide +kernel
theorem dX12_present_5 : decode cX12_present 5 = .ok (.aload_n 0, 1) := by decide +kernel
theorem dX12_present_6 : decode cX12_present 6 = .ok (.getfield 181, 3) := by decide +kernel
theorem dX12_present_9 : decode cX12_present 9 = .ok (.iload_n 1, 1) := by decide +kernel
theorem dX12_present_10 : decode cX12_present 10 = .ok (.invokevirtual 287, 3) := by decide +kernel
theorem dX12_present_13 : decode cX12_present 13 = .ok (.istore_n 2, 1) := by decide +kernel
theorem dX12_present_14 : decode cX12_present 14 = .ok (.iload_n 2, 1) := by decide +kernel
theorem dX12_present_15 : decode cX12_present 15 = .ok (.ifCond .eq 9, 3) := by decide +kernel
theorem dX12_present_18 : decode cX12_present 18 = .ok (.aload_n 0, 1) := by decide +kernel
theorem dX12_present_19 : decode cX12_present 19 = .ok (.iload_n 2, 1) := by decide +kernel
theorem dX12_present_20 : decode cX12_present 20 = .ok (.invokevirtual 171, 3) := by decide +kernel
theorem dX12_present_23 : decode cX12_present 23 = .ok (.ireturn, 1) := by decide +kernel
theorem dX12_present_24 : decode cX12_present 24 = .ok (.iconst 0, 1) := by decide +kernel
theorem dX12_present_25 : decode cX12_present 25 = .ok (.istore_n 3, 1) := by decide +kernel
theorem dX12_present_26 : decode cX12_present 26 = .ok (.iconst 0, 1) := by decide +kernel
theorem dX12_present_27 : decode cX12_present 27 = .ok (.istore 4, 2) := by decide +kernel
theorem dX12_present_29 : decode cX12_present 29 = .ok (.iload 4, 2) := by decide +kernel
theorem dX12_present_31 : decode cX12_present 31 = .ok (.aload_n 0, 1) := by decide +kernel
theorem dX12_present_32 : decode cX12_present 32 = .ok (.getfield 20, 3) := by decide +kernel
theorem dX12_present_35 : decode cX12_present 35 = .ok (.iconst 4, 1) := by decide +kernel
theorem dX12_present_36 : decode cX12_present 36 = .ok (.iaload, 1) := by decide +kernel
theorem dX12_present_37 : decode cX12_present 37 = .ok (.if_icmp .ge 30, 3) := by decide +kernel
theorem dX12_present_40 : decode cX12_present 40 = .ok (.iload_n 3, 1) := by decide +kernel
theorem dX12_present_41 : decode cX12_present 41 = .ok (.aload_n 0, 1) := by decide +kernel
theorem dX12_present_42 : decode cX12_present 42 = .ok (.iload 4, 2) := by decide +kernel
theorem dX12_present_44 : decode cX12_present 44 = .ok (.iload_n 1, 1) := by decide +kernel
theorem dX12_present_45 : decode cX12_present 45 = .ok (.invokevirtual 301, 3) := by decide +kernel
theorem dX12_present_48 : decode cX12_present 48 = .ok (.ifCond .le 10, 3) := by decide +kernel
theorem dX12_present_51 : decode cX12_present 51 = .ok (.iconst 1, 1) := by decide +kernel
theorem dX12_present_52 : decode cX12_present 52 = .ok (.iload 4, 2) := by decide +kernel
theorem dX12_present_54 : decode cX12_present 54 = .ok (.ishl, 1) := by decide +kernel
theorem dX12_present_55 : decode cX12_present 55 = .ok (.goto 4, 3) := by decide +kernel
theorem dX12_present_58 : decode cX12_present 58 = .ok (.iconst 0, 1) := by decide +kernel
theorem dX12_present_59 : decode cX12_present 59 = .ok (.ior, 1) := by decide +kernel
theorem dX12_present_60 : decode cX12_present 60 = .ok (.istore_n 3, 1) := by decide +kernel
theorem dX12_present_61 : decode cX12_present 61 = .ok (.iinc 4 1, 3) := by decide +kernel
theorem dX12_present_64 : decode cX12_present 64 = .ok (.goto (-35), 3) := by decide +kernel
theorem dX12_present_67 : decode cX12_present 67 = .ok (.iload_n 3, 1) := by decide +kernel
theorem dX12_present_68 : decode cX12_present 68 = .ok (.ireturn, 1) := by decide +kernel
theorem dX12_trials_0 : decode cX12_trials 0 = .ok (.lconst 1, 1) := by decide +kernel
theorem dX12_trials_1 : decode cX12_trials 1 = .ok (.lstore_n 3, 1) := by decide +kernel
theorem dX12_trials_2 : decode cX12_trials 2 = .ok (.iconst 0, 1) := by decide +kernel
theorem dX12_trials_3 : decode cX12_trials 3 = .ok (.istore 5, 2) := by decide +kernel
theorem dX12_trials_5 : decode cX12_trials 5 = .ok (.iload 5, 2) := by decide +kernel
theorem dX12_trials_7 : decode cX12_trials 7 = .ok (.aload_n 0, 1) := by decide +kernel
theorem dX12_trials_8 : decode cX12_trials 8 = .ok (.getfield 20, 3) := by decide +kernel
theorem dX12_trials_11 : decode cX12_trials 11 = .ok (.iconst 1, 1) := by decide +kernel
theorem dX12_trials_12 : decode cX12_trials 12 = .ok (.iaload, 1) := by decide +kernel
theorem dX12_trials_13 : decode cX12_trials 13 = .ok (.if_icmp .ge 13, 3) := by decide +kernel
theorem dX12_trials_16 : decode cX12_trials 16 = .ok (.lload_n 3, 1) := by decide +kernel
theorem dX12_trials_17 : decode cX12_trials 17 = .ok (.lload_n 1, 1) := by decide +kernel
theorem dX12_trials_18 : decode cX12_trials 18 = .ok (.lmul, 1) := by decide +kernel
theorem dX12_trials_19 : decode cX12_trials 19 = .ok (.lstore_n 3, 1) := by decide +kernel
theorem dX12_trials_20 : decode cX12_trials 20 = .ok (.iinc 5 1, 3) := by decide +kernel
theorem dX12_trials_23 : decode cX12_trials 23 = .ok (.goto (-18), 3) := by decide +kernel
theorem dX12_trials_26 : decode cX12_trials 26 = .ok (.lload_n 3, 1) := by decide +kernel
theorem dX12_trials_27 : decode cX12_trials 27 = .ok (.lreturn, 1) := by decide +kernel
theorem dX12_isTrue_0 : decode cX12_isTrue 0 = .ok (.aload_n 0, 1) := by decide +kernel
theorem dX12_isTrue_1 : decode cX12_isTrue 1 = .ok (.invokevirtual 168, 3) := by decide +kernel
theorem dX12_isTrue_4 : decode cX12_isTrue 4 = .ok (.aload_n 0, 1) := by decide +kernel
theorem dX12_isTrue_5 : decode cX12_isTrue 5 = .ok (.aload_n 0, 1) := by decide +kernel
theorem dX12_isTrue_6 : decode cX12_isTrue 6 = .ok (.iload_n 1, 1) := by decide +kernel
theorem dX12_isTrue_7 : decode cX12_isTrue 7 = .ok (.invokevirtual 278, 3) := by decide +kernel
theorem dX12_isTrue_10 : decode cX12_isTrue 10 = .ok (.iload_n 2, 1) := by decide +kernel
theorem dX12_isTrue_11 : decode cX12_isTrue 11 = .ok (.invokevirtual 287, 3) := by decide +kernel
theorem dX12_isTrue_14 : decode cX12_isTrue 14 = .ok (.istore 4, 2) := by decide +kernel
theorem dX12_isTrue_16 : decode cX12_isTrue 16 = .ok (.iload 4, 2) := by decide +kernel
theorem dX12_isTrue_18 : decode cX12_isTrue 18 = .ok (.ifCond .eq 13, 3) := by decide +kernel
theorem dX12_isTrue_21 : decode cX12_isTrue 21 = .ok (.aload_n 0, 1) := by decide +kernel
theorem dX12_isTrue_22 : decode cX12_isTrue 22 = .ok (.iload 4, 2) := by decide +kernel
theorem dX12_isTrue_24 : decode cX12_isTrue 24 = .ok (.invokevirtual 171, 3) := by decide +kernel
theorem dX12_isTrue_27 : decode cX12_isTrue 27 = .ok (.i2l, 1) := by decide +kernel
theorem dX12_isTrue_28 : decode cX12_isTrue 28 = .ok (.goto 25, 3) := by decide +kernel
theorem dX12_isTrue_31 : decode cX12_isTrue 31 = .ok (.aload_n 0, 1) := by decide +kernel
theorem dX12_isTrue_32 : decode cX12_isTrue 32 = .ok (.aload_n 0, 1) := by decide +kernel
theorem dX12_isTrue_33 : decode cX12_isTrue 33 = .ok (.iload_n 1, 1) := by decide +kernel
theorem dX12_isTrue_34 : decode cX12_isTrue 34 = .ok (.iload_n 2, 1) := by decide +kernel
theorem dX12_isTrue_35 : decode cX12_isTrue 35 = .ok (.invokevirtual 301, 3) := by decide +kernel
theorem dX12_isTrue_38 : decode cX12_isTrue 38 = .ok (.i2l, 1) := by decide +kernel
theorem dX12_isTrue_39 : decode cX12_isTrue 39 = .ok (.invokevirtual 304, 3) := by decide +kernel
theorem dX12_isTrue_42 : decode cX12_isTrue 42 = .ok (.aload_n 0, 1) := by decide +kernel
theorem dX12_isTrue_43 : decode cX12_isTrue 43 = .ok (.ldc2_w 308, 3) := by decide +kernel
theorem dX12_isTrue_46 : decode cX12_isTrue 46 = .ok (.invokevirtual 304, 3) := by decide +kernel
theorem dX12_isTrue_49 : decode cX12_isTrue 49 = .ok (.iload_n 3, 1) := by decide +kernel
theorem dX12_isTrue_50 : decode cX12_isTrue 50 = .ok (.invokestatic 310, 3) := by decide +kernel
theorem dX12_isTrue_53 : decode cX12_isTrue 53 = .ok (.lreturn, 1) := by decide +kernel
theorem dX12_bestLanding_0 : decode cX12_bestLanding 0 = .ok (.aload_n 0, 1) := by decide +kernel
theorem dX12_bestLanding_1 : decode cX12_bestLanding 1 = .ok (.invokevirtual 168, 3) := by decide +kernel
theorem dX12_bestLanding_4 : decode cX12_bestLanding 4 = .ok (.aload_n 0, 1) := by decide +kernel
theorem dX12_bestLanding_5 : decode cX12_bestLanding 5 = .ok (.iload_n 1, 1) := by decide +kernel
theorem dX12_bestLanding_6 : decode cX12_bestLanding 6 = .ok (.invokevirtual 278, 3) := by decide +kernel
theorem dX12_bestLanding_9 : decode cX12_bestLanding 9 = .ok (.ifCond .ne 9, 3) := by decide +kernel
theorem dX12_bestLanding_12 : decode cX12_bestLanding 12 = .ok (.aload_n 0, 1) := by decide +kernel
theorem dX12_bestLanding_13 : decode cX12_bestLanding 13 = .ok (.iconst 1, 1) := by decide +kernel
theorem dX12_bestLanding_14 : decode cX12_bestLanding 14 = .ok (.invokevirtual 171, 3) := by decide +kernel
theorem dX12_bestLanding_17 : decode cX12_bestLanding 17 = .ok (.ireturn, 1) := by decide +kernel
theorem dX12_bestLanding_18 : decode cX12_bestLanding 18 = .ok (.bipush (-2), 2) := by decide +kernel
theorem dX12_bestLanding_20 : decode cX12_bestLanding 20 = .ok (.istore_n 2, 1) := by decide +kernel
theorem dX12_bestLanding_21 : decode cX12_bestLanding 21 = .ok (.iconst 0, 1) := by decide +kernel
theorem dX12_bestLanding_22 : decode cX12_bestLanding 22 = .ok (.istore_n 3, 1) := by decide +kernel
theorem dX12_bestLanding_23 : decode cX12_bestLanding 23 = .ok (.iconst 0, 1) := by decide +kernel
theorem dX12_bestLanding_24 : decode cX12_bestLanding 24 = .ok (.istore 4, 2) := by decide +kernel
theorem dX12_bestLanding_26 : decode cX12_bestLanding 26 = .ok (.iload 4, 2) := by decide +kernel
theorem dX12_bestLanding_28 : decode cX12_bestLanding 28 = .ok (.bipush 30, 2) := by decide +kernel
theorem dX12_bestLanding_30 : decode cX12_bestLanding 30 = .ok (.if_icmp .gt 34, 3) := by decide +kernel
theorem dX12_bestLanding_33 : decode cX12_bestLanding 33 = .ok (.aload_n 0, 1) := by decide +kernel
theorem dX12_bestLanding_34 : decode cX12_bestLanding 34 = .ok (.iload_n 1, 1) := by decide +kernel
theorem dX12_bestLanding_35 : decode cX12_bestLanding 35 = .ok (.iload 4, 2) := by decide +kernel
theorem dX12_bestLanding_37 : decode cX12_bestLanding 37 = .ok (.invokevirtual 301, 3) := by decide +kernel
theorem dX12_bestLanding_40 : decode cX12_bestLanding 40 = .ok (.iload_n 3, 1) := by decide +kernel
theorem dX12_bestLanding_41 : decode cX12_bestLanding 41 = .ok (.if_icmp .gt 6, 3) := by decide +kernel
theorem dX12_bestLanding_44 : decode cX12_bestLanding 44 = .ok (.goto 14, 3) := by decide +kernel
theorem dX12_bestLanding_47 : decode cX12_bestLanding 47 = .ok (.iload 4, 2) := by decide +kernel
theorem dX12_bestLanding_49 : decode cX12_bestLanding 49 = .ok (.istore_n 2, 1) := by decide +kernel
theorem dX12_bestLanding_50 : decode cX12_bestLanding 50 = .ok (.aload_n 0, 1) := by decide +kernel
theorem dX12_bestLanding_51 : decode cX12_bestLanding 51 = .ok (.iload_n 1, 1) := by decide +kernel
theorem dX12_bestLanding_52 : decode cX12_bestLanding 52 = .ok (.iload 4, 2) := by decide +kernel
theorem dX12_bestLanding_54 : decode cX12_bestLanding 54 = .ok (.invokevirtual 301, 3) := by decide +kernel
theorem dX12_bestLanding_57 : decode cX12_bestLanding 57 = .ok (.istore_n 3, 1) := by decide +kernel
theorem dX12_bestLanding_58 : decode cX12_bestLanding 58 = .ok (.iinc 4 1, 3) := by decide +kernel
theorem dX12_bestLanding_61 : decode cX12_bestLanding 61 = .ok (.goto (-35), 3) := by decide +kernel
theorem dX12_bestLanding_64 : decode cX12_bestLanding 64 = .ok (.iload_n 2, 1) := by decide +kernel
theorem dX12_bestLanding_65 : decode cX12_bestLanding 65 = .ok (.ireturn, 1) := by decide +kernel
theorem dX12_belle_0 : decode cX12_belle 0 = .ok (.aload_n 0, 1) := by decide +kernel
theorem dX12_belle_1 : decode cX12_belle 1 = .ok (.invokevirtual 168, 3) := by decide +kernel
theorem dX12_belle_4 : decode cX12_belle 4 = .ok (.aload_n 0, 1) := by decide +kernel
theorem dX12_belle_5 : decode cX12_belle 5 = .ok (.aload_n 0, 1) := by decide +kernel
theorem dX12_belle_6 : decode cX12_belle 6 = .ok (.iload_n 1, 1) := by decide +kernel
theorem dX12_belle_7 : decode cX12_belle 7 = .ok (.invokevirtual 269, 3) := by decide +kernel
theorem dX12_belle_10 : decode cX12_belle 10 = .ok (.iload_n 2, 1) := by decide +kernel
theorem dX12_belle_11 : decode cX12_belle 11 = .ok (.invokevirtual 287, 3) := by decide +kernel
theorem dX12_belle_14 : decode cX12_belle 14 = .ok (.istore_n 3, 1) := by decide +kernel
theorem dX12_belle_15 : decode cX12_belle 15 = .ok (.iload_n 3, 1) := by decide +kernel
theorem dX12_belle_16 : decode cX12_belle 16 = .ok (.ifCond .eq 9, 3) := by decide +kernel
theorem dX12_belle_19 : decode cX12_belle 19 = .ok (.aload_n 0, 1) := by decide +kernel
theorem dX12_belle_20 : decode cX12_belle 20 = .ok (.iload_n 3, 1) := by decide +kernel
theorem dX12_belle_21 : decode cX12_belle 21 = .ok (.invokevirtual 171, 3) := by decide +kernel
theorem dX12_belle_24 : decode cX12_belle 24 = .ok (.ireturn, 1) := by decide +kernel
theorem dX12_belle_25 : decode cX12_belle 25 = .ok (.bipush (-2), 2) := by decide +kernel
theorem dX12_belle_27 : decode cX12_belle 27 = .ok (.istore 4, 2) := by decide +kernel
theorem dX12_belle_29 : decode cX12_belle 29 = .ok (.iconst 0, 1) := by decide +kernel
theorem dX12_belle_30 : decode cX12_belle 30 = .ok (.istore 5, 2) := by decide +kernel
theorem dX12_belle_32 : decode cX12_belle 32 = .ok (.iconst 0, 1) := by decide +kernel
theorem dX12_belle_33 : decode cX12_belle 33 = .ok (.istore 6, 2) := by decide +kernel
theorem dX12_belle_35 : decode cX12_belle 35 = .ok (.iload 6, 2) := by decide +kernel
theorem dX12_belle_37 : decode cX12_belle 37 = .ok (.aload_n 0, 1) := by decide +kernel
theorem dX12_belle_38 : decode cX12_belle 38 = .ok (.getfield 20, 3) := by decide +kernel
theorem dX12_belle_41 : decode cX12_belle 41 = .ok (.iconst 4, 1) := by decide +kernel
theorem dX12_belle_42 : decode cX12_belle 42 = .ok (.iaload, 1) := by decide +kernel
theorem dX12_belle_43 : decode cX12_belle 43 = .ok (.if_icmp .ge 48, 3) := by decide +kernel
theorem dX12_belle_46 : decode cX12_belle 46 = .ok (.aload_n 0, 1) := by decide +kernel
theorem dX12_belle_47 : decode cX12_belle 47 = .ok (.iload 6, 2) := by decide +kernel
theorem dX12_belle_49 : decode cX12_belle 49 = .ok (.iconst 1, 1) := by decide +kernel
theorem dX12_belle_50 : decode cX12_belle 50 = .ok (.invokevirtual 266, 3) := by decide +kernel
theorem dX12_belle_53 : decode cX12_belle 53 = .ok (.iload_n 1, 1) := by decide +kernel
theorem dX12_belle_54 : decode cX12_belle 54 = .ok (.if_icmp .ne 31, 3) := by decide +kernel
theorem dX12_belle_57 : decode cX12_belle 57 = .ok (.aload_n 0, 1) := by decide +kernel
theorem dX12_belle_58 : decode cX12_belle 58 = .ok (.iload 6, 2) := by decide +kernel
theorem dX12_belle_60 : decode cX12_belle 60 = .ok (.iload_n 2, 1) := by decide +kernel
theorem dX12_belle_61 : decode cX12_belle 61 = .ok (.invokevirtual 301, 3) := by decide +kernel
theorem dX12_belle_64 : decode cX12_belle 64 = .ok (.iload 5, 2) := by decide +kernel
theorem dX12_belle_66 : decode cX12_belle 66 = .ok (.if_icmp .gt 6, 3) := by decide +kernel
theorem dX12_belle_69 : decode cX12_belle 69 = .ok (.goto 16, 3) := by decide +kernel
theorem dX12_belle_72 : decode cX12_belle 72 = .ok (.iload 6, 2) := by decide +kernel
theorem dX12_belle_74 : decode cX12_belle 74 = .ok (.istore 4, 2) := by decide +kernel
theorem dX12_belle_76 : decode cX12_belle 76 = .ok (.aload_n 0, 1) := by decide +kernel
theorem dX12_belle_77 : decode cX12_belle 77 = .ok (.iload 6, 2) := by decide +kernel
theorem dX12_belle_79 : decode cX12_belle 79 = .ok (.iload_n 2, 1) := by decide +kernel
theorem dX12_belle_80 : decode cX12_belle 80 = .ok (.invokevirtual 301, 3) := by decide +kernel
theorem dX12_belle_83 : decode cX12_belle 83 = .ok (.istore 5, 2) := by decide +kernel
theorem dX12_belle_85 : decode cX12_belle 85 = .ok (.iinc 6 1, 3) := by decide +kernel
theorem dX12_belle_88 : decode cX12_belle 88 = .ok (.goto (-53), 3) := by decide +kernel
theorem dX12_belle_91 : decode cX12_belle 91 = .ok (.iload 4, 2) := by decide +kernel
theorem dX12_belle_93 : decode cX12_belle 93 = .ok (.ireturn, 1) := by decide +kernel
theorem dX12_canBe_0 : decode cX12_canBe 0 = .ok (.iload_n 1, 1) := by decide +kernel
theorem dX12_canBe_1 : decode cX12_canBe 1 = .ok (.iload_n 2, 1) := by decide +kernel
theorem dX12_canBe_2 : decode cX12_canBe 2 = .ok (.if_icmp .eq 16, 3) := by decide +kernel
theorem dX12_canBe_5 : decode cX12_canBe 5 = .ok (.aload_n 0, 1) := by decide +kernel
theorem dX12_canBe_6 : decode cX12_canBe 6 = .ok (.iload_n 1, 1) := by decide +kernel
theorem dX12_canBe_7 : decode cX12_canBe 7 = .ok (.iconst 2, 1) := by decide +kernel
theorem dX12_canBe_8 : decode cX12_canBe 8 = .ok (.invokevirtual 272, 3) := by decide +kernel
theorem dX12_canBe_11 : decode cX12_canBe 11 = .ok (.iload_n 2, 1) := by decide +kernel
theorem dX12_canBe_12 : decode cX12_canBe 12 = .ok (.invokestatic 237, 3) := by decide +kernel
theorem dX12_canBe_15 : decode cX12_canBe 15 = .ok (.ifCond .eq 7, 3) := by decide +kernel
theorem dX12_canBe_18 : decode cX12_canBe 18 = .ok (.iconst 1, 1) := by decide +kernel
theorem dX12_canBe_19 : decode cX12_canBe 19 = .ok (.goto 4, 3) := by decide +kernel
theorem dX12_canBe_22 : decode cX12_canBe 22 = .ok (.iconst 0, 1) := by decide +kernel
theorem dX12_canBe_23 : decode cX12_canBe 23 = .ok (.ireturn, 1) := by decide +kernel
theorem dX12_sevens_0 : decode cX12_sevens 0 = .ok (.aload_n 0, 1) := by decide +kernel
theorem dX12_sevens_1 : decode cX12_sevens 1 = .ok (.invokevirtual 168, 3) := by decide +kernel
theorem dX12_sevens_4 : decode cX12_sevens 4 = .ok (.aload_n 0, 1) := by decide +kernel
theorem dX12_sevens_5 : decode cX12_sevens 5 = .ok (.iload_n 1, 1) := by decide +kernel
theorem dX12_sevens_6 : decode cX12_sevens 6 = .ok (.invokevirtual 269, 3) := by decide +kernel
theorem dX12_sevens_9 : decode cX12_sevens 9 = .ok (.ifCond .eq 20, 3) := by decide +kernel
theorem dX12_sevens_12 : decode cX12_sevens 12 = .ok (.aload_n 0, 1) := by decide +kernel
theorem dX12_sevens_13 : decode cX12_sevens 13 = .ok (.iload_n 2, 1) := by decide +kernel
theorem dX12_sevens_14 : decode cX12_sevens 14 = .ok (.invokevirtual 269, 3) := by decide +kernel
theorem dX12_sevens_17 : decode cX12_sevens 17 = .ok (.ifCond .eq 12, 3) := by decide +kernel
theorem dX12_sevens_20 : decode cX12_sevens 20 = .ok (.aload_n 0, 1) := by decide +kernel
theorem dX12_sevens_21 : decode cX12_sevens 21 = .ok (.iload_n 1, 1) := by decide +kernel
theorem dX12_sevens_22 : decode cX12_sevens 22 = .ok (.iload_n 2, 1) := by decide +kernel
theorem dX12_sevens_23 : decode cX12_sevens 23 = .ok (.invokevirtual 314, 3) := by decide +kernel
theorem dX12_sevens_26 : decode cX12_sevens 26 = .ok (.goto 8, 3) := by decide +kernel
theorem dX12_sevens_29 : decode cX12_sevens 29 = .ok (.aload_n 0, 1) := by decide +kernel
theorem dX12_sevens_30 : decode cX12_sevens 30 = .ok (.iconst 1, 1) := by decide +kernel
theorem dX12_sevens_31 : decode cX12_sevens 31 = .ok (.invokevirtual 171, 3) := by decide +kernel
theorem dX12_sevens_34 : decode cX12_sevens 34 = .ok (.ireturn, 1) := by decide +kernel
theorem dX12_sevensOf_0 : decode cX12_sevensOf 0 = .ok (.iconst 1, 1) := by decide +kernel
theorem dX12_sevensOf_1 : decode cX12_sevensOf 1 = .ok (.iload_n 1, 1) := by decide +kernel
theorem dX12_sevensOf_2 : decode cX12_sevensOf 2 = .ok (.ishl, 1) := by decide +kernel
theorem dX12_sevensOf_3 : decode cX12_sevensOf 3 = .ok (.istore_n 3, 1) := by decide +kernel
theorem dX12_sevensOf_4 : decode cX12_sevensOf 4 = .ok (.iconst 0, 1) := by decide +kernel
theorem dX12_sevensOf_5 : decode cX12_sevensOf 5 = .ok (.istore 4, 2) := by decide +kernel
theorem dX12_sevensOf_7 : decode cX12_sevensOf 7 = .ok (.iload 4, 2) := by decide +kernel
theorem dX12_sevensOf_9 : decode cX12_sevensOf 9 = .ok (.bipush 6, 2) := by decide +kernel
theorem dX12_sevensOf_11 : decode cX12_sevensOf 11 = .ok (.if_icmp .ge 71, 3) := by decide +kernel
theorem dX12_sevensOf_14 : decode cX12_sevensOf 14 = .ok (.iload_n 3, 1) := by decide +kernel
theorem dX12_sevensOf_15 : decode cX12_sevensOf 15 = .ok (.iload_n 2, 1) := by decide +kernel
theorem dX12_sevensOf_16 : decode cX12_sevensOf 16 = .ok (.invokestatic 237, 3) := by decide +kernel
theorem dX12_sevensOf_19 : decode cX12_sevensOf 19 = .ok (.ifCond .eq 6, 3) := by decide +kernel
theorem dX12_sevensOf_22 : decode cX12_sevensOf 22 = .ok (.iload 4, 2) := by decide +kernel
theorem dX12_sevensOf_24 : decode cX12_sevensOf 24 = .ok (.ireturn, 1) := by decide +kernel
theorem dX12_sevensOf_25 : decode cX12_sevensOf 25 = .ok (.iload_n 3, 1) := by decide +kernel
theorem dX12_sevensOf_26 : decode cX12_sevensOf 26 = .ok (.istore 5, 2) := by decide +kernel
theorem dX12_sevensOf_28 : decode cX12_sevensOf 28 = .ok (.iconst 0, 1) := by decide +kernel
theorem dX12_sevensOf_29 : decode cX12_sevensOf 29 = .ok (.istore 6, 2) := by decide +kernel
theorem dX12_sevensOf_31 : decode cX12_sevensOf 31 = .ok (.iload 6, 2) := by decide +kernel
theorem dX12_sevensOf_33 : decode cX12_sevensOf 33 = .ok (.aload_n 0, 1) := by decide +kernel
theorem dX12_sevensOf_34 : decode cX12_sevensOf 34 = .ok (.getfield 20, 3) := by decide +kernel
theorem dX12_sevensOf_37 : decode cX12_sevensOf 37 = .ok (.iconst 2, 1) := by decide +kernel
theorem dX12_sevensOf_38 : decode cX12_sevensOf 38 = .ok (.iaload, 1) := by decide +kernel
theorem dX12_sevensOf_39 : decode cX12_sevensOf 39 = .ok (.if_icmp .ge 34, 3) := by decide +kernel
theorem dX12_sevensOf_42 : decode cX12_sevensOf 42 = .ok (.iload 5, 2) := by decide +kernel
theorem dX12_sevensOf_44 : decode cX12_sevensOf 44 = .ok (.iload_n 3, 1) := by decide +kernel
theorem dX12_sevensOf_45 : decode cX12_sevensOf 45 = .ok (.iload 6, 2) := by decide +kernel
theorem dX12_sevensOf_47 : decode cX12_sevensOf 47 = .ok (.invokestatic 237, 3) := by decide +kernel
theorem dX12_sevensOf_50 : decode cX12_sevensOf 50 = .ok (.ifCond .eq 13, 3) := by decide +kernel
theorem dX12_sevensOf_53 : decode cX12_sevensOf 53 = .ok (.aload_n 0, 1) := by decide +kernel
theorem dX12_sevensOf_54 : decode cX12_sevensOf 54 = .ok (.iload 6, 2) := by decide +kernel
theorem dX12_sevensOf_56 : decode cX12_sevensOf 56 = .ok (.iconst 2, 1) := by decide +kernel
theorem dX12_sevensOf_57 : decode cX12_sevensOf 57 = .ok (.invokevirtual 272, 3) := by decide +kernel
theorem dX12_sevensOf_60 : decode cX12_sevensOf 60 = .ok (.goto 4, 3) := by decide +kernel
theorem dX12_sevensOf_63 : decode cX12_sevensOf 63 = .ok (.iconst 0, 1) := by decide +kernel
theorem dX12_sevensOf_64 : decode cX12_sevensOf 64 = .ok (.ior, 1) := by decide +kernel
theorem dX12_sevensOf_65 : decode cX12_sevensOf 65 = .ok (.istore 5, 2) := by decide +kernel
theorem dX12_sevensOf_67 : decode cX12_sevensOf 67 = .ok (.iinc 6 1, 3) := by decide +kernel
theorem dX12_sevensOf_70 : decode cX12_sevensOf 70 = .ok (.goto (-39), 3) := by decide +kernel
theorem dX12_sevensOf_73 : decode cX12_sevensOf 73 = .ok (.iload 5, 2) := by decide +kernel
theorem dX12_sevensOf_75 : decode cX12_sevensOf 75 = .ok (.istore_n 3, 1) := by decide +kernel
theorem dX12_sevensOf_76 : decode cX12_sevensOf 76 = .ok (.iinc 4 1, 3) := by decide +kernel
theorem dX12_sevensOf_79 : decode cX12_sevensOf 79 = .ok (.goto (-72), 3) := by decide +kernel
theorem dX12_sevensOf_82 : decode cX12_sevensOf 82 = .ok (.bipush (-2), 2) := by decide +kernel
theorem dX12_sevensOf_84 : decode cX12_sevensOf 84 = .ok (.ireturn, 1) := by decide +kernel
theorem dX12_byYears_0 : decode cX12_byYears 0 = .ok (.aload_n 0, 1) := by decide +kernel
theorem dX12_byYears_1 : decode cX12_byYears 1 = .ok (.invokevirtual 168, 3) := by decide +kernel
theorem dX12_byYears_4 : decode cX12_byYears 4 = .ok (.aload_n 0, 1) := by decide +kernel
theorem dX12_byYears_5 : decode cX12_byYears 5 = .ok (.aload_n 0, 1) := by decide +kernel
theorem dX12_byYears_6 : decode cX12_byYears 6 = .ok (.iload_n 1, 1) := by decide +kernel
theorem dX12_byYears_7 : decode cX12_byYears 7 = .ok (.invokevirtual 278, 3) := by decide +kernel
theorem dX12_byYears_10 : decode cX12_byYears 10 = .ok (.iload_n 2, 1) := by decide +kernel
theorem dX12_byYears_11 : decode cX12_byYears 11 = .ok (.invokevirtual 287, 3) := by decide +kernel
theorem dX12_byYears_14 : decode cX12_byYears 14 = .ok (.istore 4, 2) := by decide +kernel
theorem dX12_byYears_16 : decode cX12_byYears 16 = .ok (.iload 4, 2) := by decide +kernel
theorem dX12_byYears_18 : decode cX12_byYears 18 = .ok (.ifCond .ne 16, 3) := by decide +kernel
theorem dX12_byYears_21 : decode cX12_byYears 21 = .ok (.iload_n 3, 1) := by decide +kernel
theorem dX12_byYears_22 : decode cX12_byYears 22 = .ok (.iconst 5, 1) := by decide +kernel
theorem dX12_byYears_23 : decode cX12_byYears 23 = .ok (.bipush 9, 2) := by decide +kernel
theorem dX12_byYears_25 : decode cX12_byYears 25 = .ok (.invokestatic 150, 3) := by decide +kernel
theorem dX12_byYears_28 : decode cX12_byYears 28 = .ok (.ifCond .ne 6, 3) := by decide +kernel
theorem dX12_byYears_31 : decode cX12_byYears 31 = .ok (.iconst 2, 1) := by decide +kernel
theorem dX12_byYears_32 : decode cX12_byYears 32 = .ok (.istore 4, 2) := by decide +kernel
theorem dX12_byYears_34 : decode cX12_byYears 34 = .ok (.iload 4, 2) := by decide +kernel
theorem dX12_byYears_36 : decode cX12_byYears 36 = .ok (.ifCond .eq 12, 3) := by decide +kernel
theorem dX12_byYears_39 : decode cX12_byYears 39 = .ok (.aload_n 0, 1) := by decide +kernel
theorem dX12_byYears_40 : decode cX12_byYears 40 = .ok (.iload 4, 2) := by decide +kernel
theorem dX12_byYears_42 : decode cX12_byYears 42 = .ok (.invokevirtual 171, 3) := by decide +kernel
theorem dX12_byYears_45 : decode cX12_byYears 45 = .ok (.goto 10, 3) := by decide +kernel
theorem dX12_byYears_48 : decode cX12_byYears 48 = .ok (.aload_n 0, 1) := by decide +kernel
theorem dX12_byYears_49 : decode cX12_byYears 49 = .ok (.iload_n 1, 1) := by decide +kernel
theorem dX12_byYears_50 : decode cX12_byYears 50 = .ok (.iload_n 2, 1) := by decide +kernel
theorem dX12_byYears_51 : decode cX12_byYears 51 = .ok (.iload_n 3, 1) := by decide +kernel
theorem dX12_byYears_52 : decode cX12_byYears 52 = .ok (.invokevirtual 298, 3) := by decide +kernel
theorem dX12_byYears_55 : decode cX12_byYears 55 = .ok (.ireturn, 1) := by decide +kernel
theorem dX12_sumBy_0 : decode cX12_sumBy 0 = .ok (.iconst 0, 1) := by decide +kernel
theorem dX12_sumBy_1 : decode cX12_sumBy 1 = .ok (.istore_n 3, 1) := by decide +kernel
theorem dX12_sumBy_2 : decode cX12_sumBy 2 = .ok (.iconst 0, 1) := by decide +kernel
theorem dX12_sumBy_3 : decode cX12_sumBy 3 = .ok (.istore 4, 2) := by decide +kernel
theorem dX12_sumBy_5 : decode cX12_sumBy 5 = .ok (.iload 4, 2) := by decide +kernel
theorem dX12_sumBy_7 : decode cX12_sumBy 7 = .ok (.aload_n 0, 1) := by decide +kernel
theorem dX12_sumBy_8 : decode cX12_sumBy 8 = .ok (.getfield 20, 3) := by decide +kernel
theorem dX12_sumBy_11 : decode cX12_sumBy 11 = .ok (.iconst 4, 1) := by decide +kernel
theorem dX12_sumBy_12 : decode cX12_sumBy 12 = .ok (.iaload, 1) := by decide +kernel
theorem dX12_sumBy_13 : decode cX12_sumBy 13 = .ok (.if_icmp .ge 20, 3) := by decide +kernel
theorem dX12_sumBy_16 : decode cX12_sumBy 16 = .ok (.iload_n 3, 1) := by decide +kernel
theorem dX12_sumBy_17 : decode cX12_sumBy 17 = .ok (.aload_n 0, 1) := by decide +kernel
theorem dX12_sumBy_18 : decode cX12_sumBy 18 = .ok (.iload 4, 2) := by decide +kernel
theorem dX12_sumBy_20 : decode cX12_sumBy 20 = .ok (.iload_n 1, 1) := by decide +kernel
theorem dX12_sumBy_21 : decode cX12_sumBy 21 = .ok (.iload_n 2, 1) := by decide +kernel
theorem dX12_sumBy_22 : decode cX12_sumBy 22 = .ok (.invokevirtual 298, 3) := by decide +kernel
theorem dX12_sumBy_25 : decode cX12_sumBy 25 = .ok (.iadd, 1) := by decide +kernel
theorem dX12_sumBy_26 : decode cX12_sumBy 26 = .ok (.istore_n 3, 1) := by decide +kernel
theorem dX12_sumBy_27 : decode cX12_sumBy 27 = .ok (.iinc 4 1, 3) := by decide +kernel
theorem dX12_sumBy_30 : decode cX12_sumBy 30 = .ok (.goto (-25), 3) := by decide +kernel
theorem dX12_sumBy_33 : decode cX12_sumBy 33 = .ok (.iload_n 3, 1) := by decide +kernel
theorem dX12_sumBy_34 : decode cX12_sumBy 34 = .ok (.ireturn, 1) := by decide +kernel
theorem dX12_bestYears_0 : decode cX12_bestYears 0 = .ok (.aload_n 0, 1) := by decide +kernel
theorem dX12_bestYears_1 : decode cX12_bestYears 1 = .ok (.invokevirtual 168, 3) := by decide +kernel
theorem dX12_bestYears_4 : decode cX12_bestYears 4 = .ok (.aload_n 0, 1) := by decide +kernel
theorem dX12_bestYears_5 : decode cX12_bestYears 5 = .ok (.aload_n 0, 1) := by decide +kernel
theorem dX12_bestYears_6 : decode cX12_bestYears 6 = .ok (.getfield 181, 3) := by decide +kernel
theorem dX12_bestYears_9 : decode cX12_bestYears 9 = .ok (.iload_n 1, 1) := by decide +kernel
theorem dX12_bestYears_10 : decode cX12_bestYears 10 = .ok (.invokevirtual 287, 3) := by decide +kernel
theorem dX12_bestYears_13 : decode cX12_bestYears 13 = .ok (.istore_n 2, 1) := by decide +kernel
theorem dX12_bestYears_14 : decode cX12_bestYears 14 = .ok (.iload_n 2, 1) := by decide +kernel
theorem dX12_bestYears_15 : decode cX12_bestYears 15 = .ok (.ifCond .eq 9, 3) := by decide +kernel
theorem dX12_bestYears_18 : decode cX12_bestYears 18 = .ok (.aload_n 0, 1) := by decide +kernel
theorem dX12_bestYears_19 : decode cX12_bestYears 19 = .ok (.iload_n 2, 1) := by decide +kernel
theorem dX12_bestYears_20 : decode cX12_bestYears 20 = .ok (.invokevirtual 171, 3) := by decide +kernel
theorem dX12_bestYears_23 : decode cX12_bestYears 23 = .ok (.ireturn, 1) := by decide +kernel
theorem dX12_bestYears_24 : decode cX12_bestYears 24 = .ok (.iconst 5, 1) := by decide +kernel
theorem dX12_bestYears_25 : decode cX12_bestYears 25 = .ok (.istore_n 3, 1) := by decide +kernel
theorem dX12_bestYears_26 : decode cX12_bestYears 26 = .ok (.bipush 6, 2) := by decide +kernel
theorem dX12_bestYears_28 : decode cX12_bestYears 28 = .ok (.istore 4, 2) := by decide +kernel
theorem dX12_bestYears_30 : decode cX12_bestYears 30 = .ok (.iload 4, 2) := by decide +kernel
theorem dX12_bestYears_32 : decode cX12_bestYears 32 = .ok (.bipush 9, 2) := by decide +kernel
theorem dX12_bestYears_34 : decode cX12_bestYears 34 = .ok (.if_icmp .gt 32, 3) := by decide +kernel
theorem dX12_bestYears_37 : decode cX12_bestYears 37 = .ok (.aload_n 0, 1) := by decide +kernel
theorem dX12_bestYears_38 : decode cX12_bestYears 38 = .ok (.iload_n 1, 1) := by decide +kernel
theorem dX12_bestYears_39 : decode cX12_bestYears 39 = .ok (.iload 4, 2) := by decide +kernel
theorem dX12_bestYears_41 : decode cX12_bestYears 41 = .ok (.invokevirtual 317, 3) := by decide +kernel
theorem dX12_bestYears_44 : decode cX12_bestYears 44 = .ok (.aload_n 0, 1) := by decide +kernel
theorem dX12_bestYears_45 : decode cX12_bestYears 45 = .ok (.iload_n 1, 1) := by decide +kernel
theorem dX12_bestYears_46 : decode cX12_bestYears 46 = .ok (.iload_n 3, 1) := by decide +kernel
theorem dX12_bestYears_47 : decode cX12_bestYears 47 = .ok (.invokevirtual 317, 3) := by decide +kernel
theorem dX12_bestYears_50 : decode cX12_bestYears 50 = .ok (.if_icmp .le 8, 3) := by decide +kernel
theorem dX12_bestYears_53 : decode cX12_bestYears 53 = .ok (.iload 4, 2) := by decide +kernel
theorem dX12_bestYears_55 : decode cX12_bestYears 55 = .ok (.goto 4, 3) := by decide +kernel
theorem dX12_bestYears_58 : decode cX12_bestYears 58 = .ok (.iload_n 3, 1) := by decide +kernel
theorem dX12_bestYears_59 : decode cX12_bestYears 59 = .ok (.istore_n 3, 1) := by decide +kernel
theorem dX12_bestYears_60 : decode cX12_bestYears 60 = .ok (.iinc 4 1, 3) := by decide +kernel
theorem dX12_bestYears_63 : decode cX12_bestYears 63 = .ok (.goto (-33), 3) := by decide +kernel
theorem dX12_bestYears_66 : decode cX12_bestYears 66 = .ok (.iload_n 3, 1) := by decide +kernel
theorem dX12_bestYears_67 : decode cX12_bestYears 67 = .ok (.ireturn, 1) := by decide +kernel
theorem dX12_tryRoutes_0 : decode cX12_tryRoutes 0 = .ok (.iload_n 1, 1) := by decide +kernel
theorem dX12_tryRoutes_1 : decode cX12_tryRoutes 1 = .ok (.iload_n 2, 1) := by decide +kernel
theorem dX12_tryRoutes_2 : decode cX12_tryRoutes 2 = .ok (.if_icmp .ne 51, 3) := by decide +kernel
theorem dX12_tryRoutes_5 : decode cX12_tryRoutes 5 = .ok (.aload_n 0, 1) := by decide +kernel
theorem dX12_tryRoutes_6 : decode cX12_tryRoutes 6 = .ok (.getfield 320, 3) := by decide +kernel
theorem dX12_tryRoutes_9 : decode cX12_tryRoutes 9 = .ok (.ifCond .eq 13, 3) := by decide +kernel
theorem dX12_tryRoutes_12 : decode cX12_tryRoutes 12 = .ok (.lload 5, 2) := by decide +kernel
theorem dX12_tryRoutes_14 : decode cX12_tryRoutes 14 = .ok (.aload_n 0, 1) := by decide +kernel
theorem dX12_tryRoutes_15 : decode cX12_tryRoutes 15 = .ok (.getfield 323, 3) := by decide +kernel
theorem dX12_tryRoutes_18 : decode cX12_tryRoutes 18 = .ok (.lcmp, 1) := by decide +kernel
theorem dX12_tryRoutes_19 : decode cX12_tryRoutes 19 = .ok (.ifCond .ge 23, 3) := by decide +kernel
theorem dX12_tryRoutes_22 : decode cX12_tryRoutes 22 = .ok (.aload_n 0, 1) := by decide +kernel
theorem dX12_tryRoutes_23 : decode cX12_tryRoutes 23 = .ok (.lload 5, 2) := by decide +kernel
theorem dX12_tryRoutes_25 : decode cX12_tryRoutes 25 = .ok (.putfield 323, 3) := by decide +kernel
theorem dX12_tryRoutes_28 : decode cX12_tryRoutes 28 = .ok (.aload_n 0, 1) := by decide +kernel
theorem dX12_tryRoutes_29 : decode cX12_tryRoutes 29 = .ok (.getfield 35, 3) := by decide +kernel
theorem dX12_tryRoutes_32 : decode cX12_tryRoutes 32 = .ok (.iconst 0, 1) := by decide +kernel
theorem dX12_tryRoutes_33 : decode cX12_tryRoutes 33 = .ok (.aload_n 0, 1) := by decide +kernel
theorem dX12_tryRoutes_34 : decode cX12_tryRoutes 34 = .ok (.getfield 38, 3) := by decide +kernel
theorem dX12_tryRoutes_37 : decode cX12_tryRoutes 37 = .ok (.iconst 0, 1) := by decide +kernel
theorem dX12_tryRoutes_38 : decode cX12_tryRoutes 38 = .ok (.iload_n 2, 1) := by decide +kernel
theorem dX12_tryRoutes_39 : decode cX12_tryRoutes 39 = .ok (.invokestatic 177, 3) := by decide +kernel
theorem dX12_tryRoutes_42 : decode cX12_tryRoutes 42 = .ok (.aload_n 0, 1) := by decide +kernel
theorem dX12_tryRoutes_43 : decode cX12_tryRoutes 43 = .ok (.dup, 1) := by decide +kernel
theorem dX12_tryRoutes_44 : decode cX12_tryRoutes 44 = .ok (.getfield 320, 3) := by decide +kernel
theorem dX12_tryRoutes_47 : decode cX12_tryRoutes 47 = .ok (.iconst 1, 1) := by decide +kernel
theorem dX12_tryRoutes_48 : decode cX12_tryRoutes 48 = .ok (.iadd, 1) := by decide +kernel
theorem dX12_tryRoutes_49 : decode cX12_tryRoutes 49 = .ok (.putfield 320, 3) := by decide +kernel
theorem dX12_tryRoutes_52 : decode cX12_tryRoutes 52 = .ok (.return_, 1) := by decide +kernel
theorem dX12_tryRoutes_53 : decode cX12_tryRoutes 53 = .ok (.aload_n 0, 1) := by decide +kernel
theorem dX12_tryRoutes_54 : decode cX12_tryRoutes 54 = .ok (.getfield 26, 3) := by decide +kernel
theorem dX12_tryRoutes_57 : decode cX12_tryRoutes 57 = .ok (.iconst 0, 1) := by decide +kernel
theorem dX12_tryRoutes_58 : decode cX12_tryRoutes 58 = .ok (.iaload, 1) := by decide +kernel
theorem dX12_tryRoutes_59 : decode cX12_tryRoutes 59 = .ok (.iload_n 1, 1) := by decide +kernel
theorem dX12_tryRoutes_60 : decode cX12_tryRoutes 60 = .ok (.iadd, 1) := by decide +kernel
theorem dX12_tryRoutes_61 : decode cX12_tryRoutes 61 = .ok (.iconst 1, 1) := by decide +kernel
theorem dX12_tryRoutes_62 : decode cX12_tryRoutes 62 = .ok (.iadd, 1) := by decide +kernel
theorem dX12_tryRoutes_63 : decode cX12_tryRoutes 63 = .ok (.istore 7, 2) := by decide +kernel
theorem dX12_tryRoutes_65 : decode cX12_tryRoutes 65 = .ok (.iconst 0, 1) := by decide +kernel
theorem dX12_tryRoutes_66 : decode cX12_tryRoutes 66 = .ok (.istore 8, 2) := by decide +kernel
theorem dX12_tryRoutes_68 : decode cX12_tryRoutes 68 = .ok (.iload 8, 2) := by decide +kernel
theorem dX12_tryRoutes_70 : decode cX12_tryRoutes 70 = .ok (.aload_n 0, 1) := by decide +kernel
theorem dX12_tryRoutes_71 : decode cX12_tryRoutes 71 = .ok (.getfield 20, 3) := by decide +kernel
theorem dX12_tryRoutes_74 : decode cX12_tryRoutes 74 = .ok (.iconst 4, 1) := by decide +kernel
theorem dX12_tryRoutes_75 : decode cX12_tryRoutes 75 = .ok (.iaload, 1) := by decide +kernel
theorem dX12_tryRoutes_76 : decode cX12_tryRoutes 76 = .ok (.if_icmp .ge 100, 3) := by decide +kernel
theorem dX12_tryRoutes_79 : decode cX12_tryRoutes 79 = .ok (.aload_n 0, 1) := by decide +kernel
theorem dX12_tryRoutes_80 : decode cX12_tryRoutes 80 = .ok (.iload 8, 2) := by decide +kernel
theorem dX12_tryRoutes_82 : decode cX12_tryRoutes 82 = .ok (.iload 7, 2) := by decide +kernel
theorem dX12_tryRoutes_84 : decode cX12_tryRoutes 84 = .ok (.invokevirtual 301, 3) := by decide +kernel
theorem dX12_tryRoutes_87 : decode cX12_tryRoutes 87 = .ok (.istore 9, 2) := by decide +kernel
theorem dX12_tryRoutes_89 : decode cX12_tryRoutes 89 = .ok (.iload 4, 2) := by decide +kernel
theorem dX12_tryRoutes_91 : decode cX12_tryRoutes 91 = .ok (.iload 8, 2) := by decide +kernel
theorem dX12_tryRoutes_93 : decode cX12_tryRoutes 93 = .ok (.invokestatic 237, 3) := by decide +kernel
theorem dX12_tryRoutes_96 : decode cX12_tryRoutes 96 = .ok (.ifCond .ne 74, 3) := by decide +kernel
theorem dX12_tryRoutes_99 : decode cX12_tryRoutes 99 = .ok (.iload 9, 2) := by decide +kernel
theorem dX12_tryRoutes_101 : decode cX12_tryRoutes 101 = .ok (.ifCond .eq 69, 3) := by decide +kernel
theorem dX12_tryRoutes_104 : decode cX12_tryRoutes 104 = .ok (.aload_n 0, 1) := by decide +kernel
theorem dX12_tryRoutes_105 : decode cX12_tryRoutes 105 = .ok (.iload_n 3, 1) := by decide +kernel
theorem dX12_tryRoutes_106 : decode cX12_tryRoutes 106 = .ok (.aload_n 0, 1) := by decide +kernel
theorem dX12_tryRoutes_107 : decode cX12_tryRoutes 107 = .ok (.iload 8, 2) := by decide +kernel
theorem dX12_tryRoutes_109 : decode cX12_tryRoutes 109 = .ok (.iconst 1, 1) := by decide +kernel
theorem dX12_tryRoutes_110 : decode cX12_tryRoutes 110 = .ok (.invokevirtual 266, 3) := by decide +kernel
theorem dX12_tryRoutes_113 : decode cX12_tryRoutes 113 = .ok (.invokevirtual 327, 3) := by decide +kernel
theorem dX12_tryRoutes_116 : decode cX12_tryRoutes 116 = .ok (.ifCond .ne 6, 3) := by decide +kernel
theorem dX12_tryRoutes_119 : decode cX12_tryRoutes 119 = .ok (.goto 51, 3) := by decide +kernel
theorem dX12_tryRoutes_122 : decode cX12_tryRoutes 122 = .ok (.aload_n 0, 1) := by decide +kernel
theorem dX12_tryRoutes_123 : decode cX12_tryRoutes 123 = .ok (.getfield 35, 3) := by decide +kernel
theorem dX12_tryRoutes_126 : decode cX12_tryRoutes 126 = .ok (.iload_n 1, 1) := by decide +kernel
theorem dX12_tryRoutes_127 : decode cX12_tryRoutes 127 = .ok (.iload 8, 2) := by decide +kernel
theorem dX12_tryRoutes_129 : decode cX12_tryRoutes 129 = .ok (.iastore, 1) := by decide +kernel
theorem dX12_tryRoutes_130 : decode cX12_tryRoutes 130 = .ok (.aload_n 0, 1) := by decide +kernel
theorem dX12_tryRoutes_131 : decode cX12_tryRoutes 131 = .ok (.iload_n 1, 1) := by decide +kernel
theorem dX12_tryRoutes_132 : decode cX12_tryRoutes 132 = .ok (.iconst 1, 1) := by decide +kernel
theorem dX12_tryRoutes_133 : decode cX12_tryRoutes 133 = .ok (.iadd, 1) := by decide +kernel
theorem dX12_tryRoutes_134 : decode cX12_tryRoutes 134 = .ok (.iload_n 2, 1) := by decide +kernel
theorem dX12_tryRoutes_135 : decode cX12_tryRoutes 135 = .ok (.aload_n 0, 1) := by decide +kernel
theorem dX12_tryRoutes_136 : decode cX12_tryRoutes 136 = .ok (.iload 8, 2) := by decide +kernel
theorem dX12_tryRoutes_138 : decode cX12_tryRoutes 138 = .ok (.iconst 1, 1) := by decide +kernel
theorem dX12_tryRoutes_139 : decode cX12_tryRoutes 139 = .ok (.invokevirtual 266, 3) := by decide +kernel
theorem dX12_tryRoutes_142 : decode cX12_tryRoutes 142 = .ok (.iload 4, 2) := by decide +kernel
theorem dX12_tryRoutes_144 : decode cX12_tryRoutes 144 = .ok (.iconst 1, 1) := by decide +kernel
theorem dX12_tryRoutes_145 : decode cX12_tryRoutes 145 = .ok (.iload 8, 2) := by decide +kernel
theorem dX12_tryRoutes_147 : decode cX12_tryRoutes 147 = .ok (.ishl, 1) := by decide +kernel
theorem dX12_tryRoutes_148 : decode cX12_tryRoutes 148 = .ok (.ior, 1) := by decide +kernel
theorem dX12_tryRoutes_149 : decode cX12_tryRoutes 149 = .ok (.lload 5, 2) := by decide +kernel
theorem dX12_tryRoutes_151 : decode cX12_tryRoutes 151 = .ok (.aload_n 0, 1) := by decide +kernel
theorem dX12_tryRoutes_152 : decode cX12_tryRoutes 152 = .ok (.ldc2_w 308, 3) := by decide +kernel
theorem dX12_tryRoutes_155 : decode cX12_tryRoutes 155 = .ok (.invokevirtual 304, 3) := by decide +kernel
theorem dX12_tryRoutes_158 : decode cX12_tryRoutes 158 = .ok (.aload_n 0, 1) := by decide +kernel
theorem dX12_tryRoutes_159 : decode cX12_tryRoutes 159 = .ok (.iload 9, 2) := by decide +kernel
theorem dX12_tryRoutes_161 : decode cX12_tryRoutes 161 = .ok (.i2l, 1) := by decide +kernel
theorem dX12_tryRoutes_162 : decode cX12_tryRoutes 162 = .ok (.invokevirtual 304, 3) := by decide +kernel
theorem dX12_tryRoutes_165 : decode cX12_tryRoutes 165 = .ok (.lsub, 1) := by decide +kernel
theorem dX12_tryRoutes_166 : decode cX12_tryRoutes 166 = .ok (.lmul, 1) := by decide +kernel
theorem dX12_tryRoutes_167 : decode cX12_tryRoutes 167 = .ok (.invokevirtual 330, 3) := by decide +kernel
theorem dX12_tryRoutes_170 : decode cX12_tryRoutes 170 = .ok (.iinc 8 1, 3) := by decide +kernel
theorem dX12_tryRoutes_173 : decode cX12_tryRoutes 173 = .ok (.goto (-105), 3) := by decide +kernel
theorem dX12_tryRoutes_176 : decode cX12_tryRoutes 176 = .ok (.return_, 1) := by decide +kernel
theorem dX12_freeWhy_0 : decode cX12_freeWhy 0 = .ok (.iload_n 1, 1) := by decide +kernel
theorem dX12_freeWhy_1 : decode cX12_freeWhy 1 = .ok (.ifCond .ne 7, 3) := by decide +kernel
theorem dX12_freeWhy_4 : decode cX12_freeWhy 4 = .ok (.iconst 1, 1) := by decide +kernel
theorem dX12_freeWhy_5 : decode cX12_freeWhy 5 = .ok (.goto 25, 3) := by decide +kernel
theorem dX12_freeWhy_8 : decode cX12_freeWhy 8 = .ok (.iload_n 2, 1) := by decide +kernel
theorem dX12_freeWhy_9 : decode cX12_freeWhy 9 = .ok (.ifCond .ne 7, 3) := by decide +kernel
theorem dX12_freeWhy_12 : decode cX12_freeWhy 12 = .ok (.iconst 2, 1) := by decide +kernel
theorem dX12_freeWhy_13 : decode cX12_freeWhy 13 = .ok (.goto 17, 3) := by decide +kernel
theorem dX12_freeWhy_16 : decode cX12_freeWhy 16 = .ok (.aload_n 0, 1) := by decide +kernel
theorem dX12_freeWhy_17 : decode cX12_freeWhy 17 = .ok (.getfield 26, 3) := by decide +kernel
theorem dX12_freeWhy_20 : decode cX12_freeWhy 20 = .ok (.iconst 2, 1) := by decide +kernel
theorem dX12_freeWhy_21 : decode cX12_freeWhy 21 = .ok (.iaload, 1) := by decide +kernel
theorem dX12_freeWhy_22 : decode cX12_freeWhy 22 = .ok (.ifCond .le 7, 3) := by decide +kernel
theorem dX12_freeWhy_25 : decode cX12_freeWhy 25 = .ok (.iconst 5, 1) := by decide +kernel
theorem dX12_freeWhy_26 : decode cX12_freeWhy 26 = .ok (.goto 4, 3) := by decide +kernel
theorem dX12_freeWhy_29 : decode cX12_freeWhy 29 = .ok (.iconst 0, 1) := by decide +kernel
theorem dX12_freeWhy_30 : decode cX12_freeWhy 30 = .ok (.ireturn, 1) := by decide +kernel
theorem dX12_routeWhy_0 : decode cX12_routeWhy 0 = .ok (.aload_n 0, 1) := by decide +kernel
theorem dX12_routeWhy_1 : decode cX12_routeWhy 1 = .ok (.aload_n 0, 1) := by decide +kernel
theorem dX12_routeWhy_2 : decode cX12_routeWhy 2 = .ok (.getfield 181, 3) := by decide +kernel
theorem dX12_routeWhy_5 : decode cX12_routeWhy 5 = .ok (.iload_n 1, 1) := by decide +kernel
theorem dX12_routeWhy_6 : decode cX12_routeWhy 6 = .ok (.iconst 1, 1) := by decide +kernel
theorem dX12_routeWhy_7 : decode cX12_routeWhy 7 = .ok (.iconst 3, 1) := by decide +kernel
theorem dX12_routeWhy_8 : decode cX12_routeWhy 8 = .ok (.invokestatic 150, 3) := by decide +kernel
theorem dX12_routeWhy_11 : decode cX12_routeWhy 11 = .ok (.invokevirtual 334, 3) := by decide +kernel
theorem dX12_routeWhy_14 : decode cX12_routeWhy 14 = .ok (.istore_n 2, 1) := by decide +kernel
theorem dX12_routeWhy_15 : decode cX12_routeWhy 15 = .ok (.iload_n 2, 1) := by decide +kernel
theorem dX12_routeWhy_16 : decode cX12_routeWhy 16 = .ok (.ifCond .eq 5, 3) := by decide +kernel
theorem dX12_routeWhy_19 : decode cX12_routeWhy 19 = .ok (.iload_n 2, 1) := by decide +kernel
theorem dX12_routeWhy_20 : decode cX12_routeWhy 20 = .ok (.ireturn, 1) := by decide +kernel
theorem dX12_routeWhy_21 : decode cX12_routeWhy 21 = .ok (.aload_n 0, 1) := by decide +kernel
theorem dX12_routeWhy_22 : decode cX12_routeWhy 22 = .ok (.iconst 0, 1) := by decide +kernel
theorem dX12_routeWhy_23 : decode cX12_routeWhy 23 = .ok (.putfield 320, 3) := by decide +kernel
theorem dX12_routeWhy_26 : decode cX12_routeWhy 26 = .ok (.aload_n 0, 1) := by decide +kernel
theorem dX12_routeWhy_27 : decode cX12_routeWhy 27 = .ok (.iconst 0, 1) := by decide +kernel
theorem dX12_routeWhy_28 : decode cX12_routeWhy 28 = .ok (.iload_n 1, 1) := by decide +kernel
theorem dX12_routeWhy_29 : decode cX12_routeWhy 29 = .ok (.aload_n 0, 1) := by decide +kernel
theorem dX12_routeWhy_30 : decode cX12_routeWhy 30 = .ok (.getfield 26, 3) := by decide +kernel
theorem dX12_routeWhy_33 : decode cX12_routeWhy 33 = .ok (.iconst 1, 1) := by decide +kernel
theorem dX12_routeWhy_34 : decode cX12_routeWhy 34 = .ok (.iaload, 1) := by decide +kernel
theorem dX12_routeWhy_35 : decode cX12_routeWhy 35 = .ok (.aload_n 0, 1) := by decide +kernel
theorem dX12_routeWhy_36 : decode cX12_routeWhy 36 = .ok (.getfield 26, 3) := by decide +kernel
theorem dX12_routeWhy_39 : decode cX12_routeWhy 39 = .ok (.iconst 4, 1) := by decide +kernel
theorem dX12_routeWhy_40 : decode cX12_routeWhy 40 = .ok (.iaload, 1) := by decide +kernel
theorem dX12_routeWhy_41 : decode cX12_routeWhy 41 = .ok (.lconst 1, 1) := by decide +kernel
theorem dX12_routeWhy_42 : decode cX12_routeWhy 42 = .ok (.invokevirtual 330, 3) := by decide +kernel
theorem dX12_routeWhy_45 : decode cX12_routeWhy 45 = .ok (.iconst 0, 1) := by decide +kernel
theorem dX12_routeWhy_46 : decode cX12_routeWhy 46 = .ok (.ireturn, 1) := by decide +kernel
theorem dX12_route_0 : decode cX12_route 0 = .ok (.aload_n 0, 1) := by decide +kernel
theorem dX12_route_1 : decode cX12_route 1 = .ok (.invokevirtual 168, 3) := by decide +kernel
theorem dX12_route_4 : decode cX12_route 4 = .ok (.aload_n 0, 1) := by decide +kernel
theorem dX12_route_5 : decode cX12_route 5 = .ok (.iload_n 1, 1) := by decide +kernel
theorem dX12_route_6 : decode cX12_route 6 = .ok (.invokevirtual 338, 3) := by decide +kernel
theorem dX12_route_9 : decode cX12_route 9 = .ok (.istore_n 3, 1) := by decide +kernel
theorem dX12_route_10 : decode cX12_route 10 = .ok (.iload_n 3, 1) := by decide +kernel
theorem dX12_route_11 : decode cX12_route 11 = .ok (.ifCond .eq 10, 3) := by decide +kernel
theorem dX12_route_14 : decode cX12_route 14 = .ok (.aload_n 0, 1) := by decide +kernel
theorem dX12_route_15 : decode cX12_route 15 = .ok (.iload_n 3, 1) := by decide +kernel
theorem dX12_route_16 : decode cX12_route 16 = .ok (.invokevirtual 171, 3) := by decide +kernel
theorem dX12_route_19 : decode cX12_route 19 = .ok (.i2l, 1) := by decide +kernel
theorem dX12_route_20 : decode cX12_route 20 = .ok (.lreturn, 1) := by decide +kernel
theorem dX12_route_21 : decode cX12_route 21 = .ok (.aload_n 0, 1) := by decide +kernel
theorem dX12_route_22 : decode cX12_route 22 = .ok (.getfield 320, 3) := by decide +kernel
theorem dX12_route_25 : decode cX12_route 25 = .ok (.ifCond .ne 10, 3) := by decide +kernel
theorem dX12_route_28 : decode cX12_route 28 = .ok (.lconst 0, 1) := by decide +kernel
theorem dX12_route_29 : decode cX12_route 29 = .ok (.lconst 1, 1) := by decide +kernel
theorem dX12_route_30 : decode cX12_route 30 = .ok (.iload_n 2, 1) := by decide +kernel
theorem dX12_route_31 : decode cX12_route 31 = .ok (.invokestatic 310, 3) := by decide +kernel
theorem dX12_route_34 : decode cX12_route 34 = .ok (.lreturn, 1) := by decide +kernel
theorem dX12_route_35 : decode cX12_route 35 = .ok (.lconst 1, 1) := by decide +kernel
theorem dX12_route_36 : decode cX12_route 36 = .ok (.lstore 4, 2) := by decide +kernel
theorem dX12_route_38 : decode cX12_route 38 = .ok (.iconst 0, 1) := by decide +kernel
theorem dX12_route_39 : decode cX12_route 39 = .ok (.istore 6, 2) := by decide +kernel
theorem dX12_route_41 : decode cX12_route 41 = .ok (.iload 6, 2) := by decide +kernel
theorem dX12_route_43 : decode cX12_route 43 = .ok (.iload_n 1, 1) := by decide +kernel
theorem dX12_route_44 : decode cX12_route 44 = .ok (.if_icmp .ge 21, 3) := by decide +kernel
theorem dX12_route_47 : decode cX12_route 47 = .ok (.lload 4, 2) := by decide +kernel
theorem dX12_route_49 : decode cX12_route 49 = .ok (.aload_n 0, 1) := by decide +kernel
theorem dX12_route_50 : decode cX12_route 50 = .ok (.ldc2_w 308, 3) := by decide +kernel
theorem dX12_route_53 : decode cX12_route 53 = .ok (.invokevirtual 304, 3) := by decide +kernel
theorem dX12_route_56 : decode cX12_route 56 = .ok (.lmul, 1) := by decide +kernel
theorem dX12_route_57 : decode cX12_route 57 = .ok (.lstore 4, 2) := by decide +kernel
theorem dX12_route_59 : decode cX12_route 59 = .ok (.iinc 6 1, 3) := by decide +kernel
theorem dX12_route_62 : decode cX12_route 62 = .ok (.goto (-21), 3) := by decide +kernel
theorem dX12_route_65 : decode cX12_route 65 = .ok (.lload 4, 2) := by decide +kernel
theorem dX12_route_67 : decode cX12_route 67 = .ok (.aload_n 0, 1) := by decide +kernel
theorem dX12_route_68 : decode cX12_route 68 = .ok (.getfield 323, 3) := by decide +kernel
theorem dX12_route_71 : decode cX12_route 71 = .ok (.lsub, 1) := by decide +kernel
theorem dX12_route_72 : decode cX12_route 72 = .ok (.lload 4, 2) := by decide +kernel
theorem dX12_route_74 : decode cX12_route 74 = .ok (.iload_n 2, 1) := by decide +kernel
theorem dX12_route_75 : decode cX12_route 75 = .ok (.invokestatic 310, 3) := by decide +kernel
theorem dX12_route_78 : decode cX12_route 78 = .ok (.lreturn, 1) := by decide +kernel
theorem dX12_routeAt_0 : decode cX12_routeAt 0 = .ok (.aload_n 0, 1) := by decide +kernel
theorem dX12_routeAt_1 : decode cX12_routeAt 1 = .ok (.invokevirtual 168, 3) := by decide +kernel
theorem dX12_routeAt_4 : decode cX12_routeAt 4 = .ok (.aload_n 0, 1) := by decide +kernel
theorem dX12_routeAt_5 : decode cX12_routeAt 5 = .ok (.getfield 181, 3) := by decide +kernel
theorem dX12_routeAt_8 : decode cX12_routeAt 8 = .ok (.ifCond .ne 9, 3) := by decide +kernel
theorem dX12_routeAt_11 : decode cX12_routeAt 11 = .ok (.aload_n 0, 1) := by decide +kernel
theorem dX12_routeAt_12 : decode cX12_routeAt 12 = .ok (.iconst 1, 1) := by decide +kernel
theorem dX12_routeAt_13 : decode cX12_routeAt 13 = .ok (.invokevirtual 171, 3) := by decide +kernel
theorem dX12_routeAt_16 : decode cX12_routeAt 16 = .ok (.ireturn, 1) := by decide +kernel
theorem dX12_routeAt_17 : decode cX12_routeAt 17 = .ok (.aload_n 0, 1) := by decide +kernel
theorem dX12_routeAt_18 : decode cX12_routeAt 18 = .ok (.iload_n 1, 1) := by decide +kernel
theorem dX12_routeAt_19 : decode cX12_routeAt 19 = .ok (.invokevirtual 338, 3) := by decide +kernel
theorem dX12_routeAt_22 : decode cX12_routeAt 22 = .ok (.istore_n 3, 1) := by decide +kernel
theorem dX12_routeAt_23 : decode cX12_routeAt 23 = .ok (.iload_n 3, 1) := by decide +kernel
theorem dX12_routeAt_24 : decode cX12_routeAt 24 = .ok (.ifCond .ne 13, 3) := by decide +kernel
theorem dX12_routeAt_27 : decode cX12_routeAt 27 = .ok (.aload_n 0, 1) := by decide +kernel
theorem dX12_routeAt_28 : decode cX12_routeAt 28 = .ok (.getfield 320, 3) := by decide +kernel
theorem dX12_routeAt_31 : decode cX12_routeAt 31 = .ok (.ifCond .ne 6, 3) := by decide +kernel
theorem dX12_routeAt_34 : decode cX12_routeAt 34 = .ok (.bipush 6, 2) := by decide +kernel
theorem dX12_routeAt_36 : decode cX12_routeAt 36 = .ok (.istore_n 3, 1) := by decide +kernel
theorem dX12_routeAt_37 : decode cX12_routeAt 37 = .ok (.iload_n 3, 1) := by decide +kernel
theorem dX12_routeAt_38 : decode cX12_routeAt 38 = .ok (.ifCond .ne 16, 3) := by decide +kernel
theorem dX12_routeAt_41 : decode cX12_routeAt 41 = .ok (.iload_n 2, 1) := by decide +kernel
theorem dX12_routeAt_42 : decode cX12_routeAt 42 = .ok (.iconst 0, 1) := by decide +kernel
theorem dX12_routeAt_43 : decode cX12_routeAt 43 = .ok (.iload_n 1, 1) := by decide +kernel
theorem dX12_routeAt_44 : decode cX12_routeAt 44 = .ok (.iconst 1, 1) := by decide +kernel
theorem dX12_routeAt_45 : decode cX12_routeAt 45 = .ok (.isub, 1) := by decide +kernel
theorem dX12_routeAt_46 : decode cX12_routeAt 46 = .ok (.invokestatic 150, 3) := by decide +kernel
theorem dX12_routeAt_49 : decode cX12_routeAt 49 = .ok (.ifCond .ne 5, 3) := by decide +kernel
theorem dX12_routeAt_52 : decode cX12_routeAt 52 = .ok (.iconst 1, 1) := by decide +kernel
theorem dX12_routeAt_53 : decode cX12_routeAt 53 = .ok (.istore_n 3, 1) := by decide +kernel
theorem dX12_routeAt_54 : decode cX12_routeAt 54 = .ok (.iload_n 3, 1) := by decide +kernel
theorem dX12_routeAt_55 : decode cX12_routeAt 55 = .ok (.ifCond .eq 11, 3) := by decide +kernel
theorem dX12_routeAt_58 : decode cX12_routeAt 58 = .ok (.aload_n 0, 1) := by decide +kernel
theorem dX12_routeAt_59 : decode cX12_routeAt 59 = .ok (.iload_n 3, 1) := by decide +kernel
theorem dX12_routeAt_60 : decode cX12_routeAt 60 = .ok (.invokevirtual 171, 3) := by decide +kernel
theorem dX12_routeAt_63 : decode cX12_routeAt 63 = .ok (.goto 9, 3) := by decide +kernel
theorem dX12_routeAt_66 : decode cX12_routeAt 66 = .ok (.aload_n 0, 1) := by decide +kernel
theorem dX12_routeAt_67 : decode cX12_routeAt 67 = .ok (.getfield 38, 3) := by decide +kernel
theorem dX12_routeAt_70 : decode cX12_routeAt 70 = .ok (.iload_n 2, 1) := by decide +kernel
theorem dX12_routeAt_71 : decode cX12_routeAt 71 = .ok (.iaload, 1) := by decide +kernel
theorem dX12_routeAt_72 : decode cX12_routeAt 72 = .ok (.ireturn, 1) := by decide +kernel
theorem dX12_mean_0 : decode cX12_mean 0 = .ok (.aload_n 0, 1) := by decide +kernel
theorem dX12_mean_1 : decode cX12_mean 1 = .ok (.invokevirtual 168, 3) := by decide +kernel
theorem dX12_mean_4 : decode cX12_mean 4 = .ok (.aload_n 0, 1) := by decide +kernel
theorem dX12_mean_5 : decode cX12_mean 5 = .ok (.iload_n 1, 1) := by decide +kernel
theorem dX12_mean_6 : decode cX12_mean 6 = .ok (.invokevirtual 338, 3) := by decide +kernel
theorem dX12_mean_9 : decode cX12_mean 9 = .ok (.istore_n 3, 1) := by decide +kernel
theorem dX12_mean_10 : decode cX12_mean 10 = .ok (.iload_n 3, 1) := by decide +kernel
theorem dX12_mean_11 : decode cX12_mean 11 = .ok (.ifCond .eq 10, 3) := by decide +kernel
theorem dX12_mean_14 : decode cX12_mean 14 = .ok (.aload_n 0, 1) := by decide +kernel
theorem dX12_mean_15 : decode cX12_mean 15 = .ok (.iload_n 3, 1) := by decide +kernel
theorem dX12_mean_16 : decode cX12_mean 16 = .ok (.invokevirtual 171, 3) := by decide +kernel
theorem dX12_mean_19 : decode cX12_mean 19 = .ok (.i2l, 1) := by decide +kernel
theorem dX12_mean_20 : decode cX12_mean 20 = .ok (.lreturn, 1) := by decide +kernel
theorem dX12_mean_21 : decode cX12_mean 21 = .ok (.lconst 0, 1) := by decide +kernel
theorem dX12_mean_22 : decode cX12_mean 22 = .ok (.lstore 4, 2) := by decide +kernel
theorem dX12_mean_24 : decode cX12_mean 24 = .ok (.iconst 0, 1) := by decide +kernel
theorem dX12_mean_25 : decode cX12_mean 25 = .ok (.istore 6, 2) := by decide +kernel
theorem dX12_mean_27 : decode cX12_mean 27 = .ok (.iload 6, 2) := by decide +kernel
theorem dX12_mean_29 : decode cX12_mean 29 = .ok (.iload_n 1, 1) := by decide +kernel
theorem dX12_mean_30 : decode cX12_mean 30 = .ok (.if_icmp .ge 48, 3) := by decide +kernel
theorem dX12_mean_33 : decode cX12_mean 33 = .ok (.aload_n 0, 1) := by decide +kernel
theorem dX12_mean_34 : decode cX12_mean 34 = .ok (.getfield 320, 3) := by decide +kernel
theorem dX12_mean_37 : decode cX12_mean 37 = .ok (.ifCond .le 41, 3) := by decide +kernel
theorem dX12_mean_40 : decode cX12_mean 40 = .ok (.lload 4, 2) := by decide +kernel
theorem dX12_mean_42 : decode cX12_mean 42 = .ok (.aload_n 0, 1) := by decide +kernel
theorem dX12_mean_43 : decode cX12_mean 43 = .ok (.aload_n 0, 1) := by decide +kernel
theorem dX12_mean_44 : decode cX12_mean 44 = .ok (.aload_n 0, 1) := by decide +kernel
theorem dX12_mean_45 : decode cX12_mean 45 = .ok (.getfield 38, 3) := by decide +kernel
theorem dX12_mean_48 : decode cX12_mean 48 = .ok (.iload 6, 2) := by decide +kernel
theorem dX12_mean_50 : decode cX12_mean 50 = .ok (.iaload, 1) := by decide +kernel
theorem dX12_mean_51 : decode cX12_mean 51 = .ok (.aload_n 0, 1) := by decide +kernel
theorem dX12_mean_52 : decode cX12_mean 52 = .ok (.getfield 26, 3) := by decide +kernel
theorem dX12_mean_55 : decode cX12_mean 55 = .ok (.iconst 0, 1) := by decide +kernel
theorem dX12_mean_56 : decode cX12_mean 56 = .ok (.iaload, 1) := by decide +kernel
theorem dX12_mean_57 : decode cX12_mean 57 = .ok (.iload 6, 2) := by decide +kernel
theorem dX12_mean_59 : decode cX12_mean 59 = .ok (.iadd, 1) := by decide +kernel
theorem dX12_mean_60 : decode cX12_mean 60 = .ok (.iconst 1, 1) := by decide +kernel
theorem dX12_mean_61 : decode cX12_mean 61 = .ok (.iadd, 1) := by decide +kernel
theorem dX12_mean_62 : decode cX12_mean 62 = .ok (.invokevirtual 301, 3) := by decide +kernel
theorem dX12_mean_65 : decode cX12_mean 65 = .ok (.i2l, 1) := by decide +kernel
theorem dX12_mean_66 : decode cX12_mean 66 = .ok (.invokevirtual 304, 3) := by decide +kernel
theorem dX12_mean_69 : decode cX12_mean 69 = .ok (.ladd, 1) := by decide +kernel
theorem dX12_mean_70 : decode cX12_mean 70 = .ok (.lstore 4, 2) := by decide +kernel
theorem dX12_mean_72 : decode cX12_mean 72 = .ok (.iinc 6 1, 3) := by decide +kernel
theorem dX12_mean_75 : decode cX12_mean 75 = .ok (.goto (-48), 3) := by decide +kernel
theorem dX12_mean_78 : decode cX12_mean 78 = .ok (.lload 4, 2) := by decide +kernel
theorem dX12_mean_80 : decode cX12_mean 80 = .ok (.aload_n 0, 1) := by decide +kernel
theorem dX12_mean_81 : decode cX12_mean 81 = .ok (.ldc2_w 308, 3) := by decide +kernel
theorem dX12_mean_84 : decode cX12_mean 84 = .ok (.invokevirtual 304, 3) := by decide +kernel
theorem dX12_mean_87 : decode cX12_mean 87 = .ok (.iload_n 2, 1) := by decide +kernel
theorem dX12_mean_88 : decode cX12_mean 88 = .ok (.invokestatic 310, 3) := by decide +kernel
theorem dX12_mean_91 : decode cX12_mean 91 = .ok (.lreturn, 1) := by decide +kernel
theorem dX12_routes_0 : decode cX12_routes 0 = .ok (.aload_n 0, 1) := by decide +kernel
theorem dX12_routes_1 : decode cX12_routes 1 = .ok (.invokevirtual 168, 3) := by decide +kernel
theorem dX12_routes_4 : decode cX12_routes 4 = .ok (.aload_n 0, 1) := by decide +kernel
theorem dX12_routes_5 : decode cX12_routes 5 = .ok (.iload_n 1, 1) := by decide +kernel
theorem dX12_routes_6 : decode cX12_routes 6 = .ok (.invokevirtual 338, 3) := by decide +kernel
theorem dX12_routes_9 : decode cX12_routes 9 = .ok (.istore_n 2, 1) := by decide +kernel
theorem dX12_routes_10 : decode cX12_routes 10 = .ok (.iload_n 2, 1) := by decide +kernel
theorem dX12_routes_11 : decode cX12_routes 11 = .ok (.ifCond .eq 11, 3) := by decide +kernel
theorem dX12_routes_14 : decode cX12_routes 14 = .ok (.aload_n 0, 1) := by decide +kernel
theorem dX12_routes_15 : decode cX12_routes 15 = .ok (.iload_n 2, 1) := by decide +kernel
theorem dX12_routes_16 : decode cX12_routes 16 = .ok (.invokevirtual 171, 3) := by decide +kernel
theorem dX12_routes_19 : decode cX12_routes 19 = .ok (.goto 7, 3) := by decide +kernel
theorem dX12_routes_22 : decode cX12_routes 22 = .ok (.aload_n 0, 1) := by decide +kernel
theorem dX12_routes_23 : decode cX12_routes 23 = .ok (.getfield 320, 3) := by decide +kernel
theorem dX12_routes_26 : decode cX12_routes 26 = .ok (.ireturn, 1) := by decide +kernel
theorem dX12_lettersTo_0 : decode cX12_lettersTo 0 = .ok (.iconst 0, 1) := by decide +kernel
theorem dX12_lettersTo_1 : decode cX12_lettersTo 1 = .ok (.istore_n 3, 1) := by decide +kernel
theorem dX12_lettersTo_2 : decode cX12_lettersTo 2 = .ok (.iconst 0, 1) := by decide +kernel
theorem dX12_lettersTo_3 : decode cX12_lettersTo 3 = .ok (.istore 4, 2) := by decide +kernel
theorem dX12_lettersTo_5 : decode cX12_lettersTo 5 = .ok (.iload 4, 2) := by decide +kernel
theorem dX12_lettersTo_7 : decode cX12_lettersTo 7 = .ok (.aload_n 0, 1) := by decide +kernel
theorem dX12_lettersTo_8 : decode cX12_lettersTo 8 = .ok (.getfield 20, 3) := by decide +kernel
theorem dX12_lettersTo_11 : decode cX12_lettersTo 11 = .ok (.bipush 6, 2) := by decide +kernel
theorem dX12_lettersTo_13 : decode cX12_lettersTo 13 = .ok (.iaload, 1) := by decide +kernel
theorem dX12_lettersTo_14 : decode cX12_lettersTo 14 = .ok (.if_icmp .ge 54, 3) := by decide +kernel
theorem dX12_lettersTo_17 : decode cX12_lettersTo 17 = .ok (.iload_n 3, 1) := by decide +kernel
theorem dX12_lettersTo_18 : decode cX12_lettersTo 18 = .ok (.aload_n 0, 1) := by decide +kernel
theorem dX12_lettersTo_19 : decode cX12_lettersTo 19 = .ok (.getfield 20, 3) := by decide +kernel
theorem dX12_lettersTo_22 : decode cX12_lettersTo 22 = .ok (.bipush 75, 2) := by decide +kernel
theorem dX12_lettersTo_24 : decode cX12_lettersTo 24 = .ok (.iconst 2, 1) := by decide +kernel
theorem dX12_lettersTo_25 : decode cX12_lettersTo 25 = .ok (.iload 4, 2) := by decide +kernel
theorem dX12_lettersTo_27 : decode cX12_lettersTo 27 = .ok (.imul, 1) := by decide +kernel
theorem dX12_lettersTo_28 : decode cX12_lettersTo 28 = .ok (.iadd, 1) := by decide +kernel
theorem dX12_lettersTo_29 : decode cX12_lettersTo 29 = .ok (.iaload, 1) := by decide +kernel
theorem dX12_lettersTo_30 : decode cX12_lettersTo 30 = .ok (.iload_n 1, 1) := by decide +kernel
theorem dX12_lettersTo_31 : decode cX12_lettersTo 31 = .ok (.if_icmp .ne 28, 3) := by decide +kernel
theorem dX12_lettersTo_34 : decode cX12_lettersTo 34 = .ok (.aload_n 0, 1) := by decide +kernel
theorem dX12_lettersTo_35 : decode cX12_lettersTo 35 = .ok (.getfield 20, 3) := by decide +kernel
theorem dX12_lettersTo_38 : decode cX12_lettersTo 38 = .ok (.bipush 75, 2) := by decide +kernel
theorem dX12_lettersTo_40 : decode cX12_lettersTo 40 = .ok (.iconst 2, 1) := by decide +kernel
theorem dX12_lettersTo_41 : decode cX12_lettersTo 41 = .ok (.iload 4, 2) := by decide +kernel
theorem dX12_lettersTo_43 : decode cX12_lettersTo 43 = .ok (.imul, 1) := by decide +kernel
theorem dX12_lettersTo_44 : decode cX12_lettersTo 44 = .ok (.iadd, 1) := by decide +kernel
theorem dX12_lettersTo_45 : decode cX12_lettersTo 45 = .ok (.iconst 1, 1) := by decide +kernel
theorem dX12_lettersTo_46 : decode cX12_lettersTo 46 = .ok (.iadd, 1) := by decide +kernel
theorem dX12_lettersTo_47 : decode cX12_lettersTo 47 = .ok (.iaload, 1) := by decide +kernel
theorem dX12_lettersTo_48 : decode cX12_lettersTo 48 = .ok (.iload_n 2, 1) := by decide +kernel
theorem dX12_lettersTo_49 : decode cX12_lettersTo 49 = .ok (.if_icmp .lt 10, 3) := by decide +kernel
theorem dX12_lettersTo_52 : decode cX12_lettersTo 52 = .ok (.iconst 1, 1) := by decide +kernel
theorem dX12_lettersTo_53 : decode cX12_lettersTo 53 = .ok (.iload 4, 2) := by decide +kernel
theorem dX12_lettersTo_55 : decode cX12_lettersTo 55 = .ok (.ishl, 1) := by decide +kernel
theorem dX12_lettersTo_56 : decode cX12_lettersTo 56 = .ok (.goto 4, 3) := by decide +kernel
theorem dX12_lettersTo_59 : decode cX12_lettersTo 59 = .ok (.iconst 0, 1) := by decide +kernel
theorem dX12_lettersTo_60 : decode cX12_lettersTo 60 = .ok (.ior, 1) := by decide +kernel
theorem dX12_lettersTo_61 : decode cX12_lettersTo 61 = .ok (.istore_n 3, 1) := by decide +kernel
theorem dX12_lettersTo_62 : decode cX12_lettersTo 62 = .ok (.iinc 4 1, 3) := by decide +kernel
theorem dX12_lettersTo_65 : decode cX12_lettersTo 65 = .ok (.goto (-60), 3) := by decide +kernel
theorem dX12_lettersTo_68 : decode cX12_lettersTo 68 = .ok (.iload_n 3, 1) := by decide +kernel
theorem dX12_lettersTo_69 : decode cX12_lettersTo 69 = .ok (.ireturn, 1) := by decide +kernel
theorem dX12_tryPorts_0 : decode cX12_tryPorts 0 = .ok (.iload_n 1, 1) := by decide +kernel
theorem dX12_tryPorts_1 : decode cX12_tryPorts 1 = .ok (.iload_n 2, 1) := by decide +kernel
theorem dX12_tryPorts_2 : decode cX12_tryPorts 2 = .ok (.if_icmp .ne 50, 3) := by decide +kernel
theorem dX12_tryPorts_5 : decode cX12_tryPorts 5 = .ok (.iload 4, 2) := by decide +kernel
theorem dX12_tryPorts_7 : decode cX12_tryPorts 7 = .ok (.aload_n 0, 1) := by decide +kernel
theorem dX12_tryPorts_8 : decode cX12_tryPorts 8 = .ok (.getfield 26, 3) := by decide +kernel
theorem dX12_tryPorts_11 : decode cX12_tryPorts 11 = .ok (.iconst 5, 1) := by decide +kernel
theorem dX12_tryPorts_12 : decode cX12_tryPorts 12 = .ok (.iaload, 1) := by decide +kernel
theorem dX12_tryPorts_13 : decode cX12_tryPorts 13 = .ok (.iconst (-1), 1) := by decide +kernel
theorem dX12_tryPorts_14 : decode cX12_tryPorts 14 = .ok (.ixor, 1) := by decide +kernel
theorem dX12_tryPorts_15 : decode cX12_tryPorts 15 = .ok (.iand, 1) := by decide +kernel
theorem dX12_tryPorts_16 : decode cX12_tryPorts 16 = .ok (.invokestatic 341, 3) := by decide +kernel
theorem dX12_tryPorts_19 : decode cX12_tryPorts 19 = .ok (.istore 5, 2) := by decide +kernel
theorem dX12_tryPorts_21 : decode cX12_tryPorts 21 = .ok (.iload 5, 2) := by decide +kernel
theorem dX12_tryPorts_23 : decode cX12_tryPorts 23 = .ok (.aload_n 0, 1) := by decide +kernel
theorem dX12_tryPorts_24 : decode cX12_tryPorts 24 = .ok (.getfield 344, 3) := by decide +kernel
theorem dX12_tryPorts_27 : decode cX12_tryPorts 27 = .ok (.if_icmp .gt 4, 3) := by decide +kernel
theorem dX12_tryPorts_30 : decode cX12_tryPorts 30 = .ok (.return_, 1) := by decide +kernel
theorem dX12_tryPorts_31 : decode cX12_tryPorts 31 = .ok (.aload_n 0, 1) := by decide +kernel
theorem dX12_tryPorts_32 : decode cX12_tryPorts 32 = .ok (.iload 5, 2) := by decide +kernel
theorem dX12_tryPorts_34 : decode cX12_tryPorts 34 = .ok (.putfield 344, 3) := by decide +kernel
theorem dX12_tryPorts_37 : decode cX12_tryPorts 37 = .ok (.aload_n 0, 1) := by decide +kernel
theorem dX12_tryPorts_38 : decode cX12_tryPorts 38 = .ok (.getfield 41, 3) := by decide +kernel
theorem dX12_tryPorts_41 : decode cX12_tryPorts 41 = .ok (.iconst 0, 1) := by decide +kernel
theorem dX12_tryPorts_42 : decode cX12_tryPorts 42 = .ok (.aload_n 0, 1) := by decide +kernel
theorem dX12_tryPorts_43 : decode cX12_tryPorts 43 = .ok (.getfield 44, 3) := by decide +kernel
theorem dX12_tryPorts_46 : decode cX12_tryPorts 46 = .ok (.iconst 0, 1) := by decide +kernel
theorem dX12_tryPorts_47 : decode cX12_tryPorts 47 = .ok (.iload_n 2, 1) := by decide +kernel
theorem dX12_tryPorts_48 : decode cX12_tryPorts 48 = .ok (.invokestatic 177, 3) := by decide +kernel
theorem dX12_tryPorts_51 : decode cX12_tryPorts 51 = .ok (.return_, 1) := by decide +kernel
theorem dX12_tryPorts_52 : decode cX12_tryPorts 52 = .ok (.iconst 0, 1) := by decide +kernel
theorem dX12_tryPorts_53 : decode cX12_tryPorts 53 = .ok (.istore 5, 2) := by decide +kernel
theorem dX12_tryPorts_55 : decode cX12_tryPorts 55 = .ok (.iload 5, 2) := by decide +kernel
theorem dX12_tryPorts_57 : decode cX12_tryPorts 57 = .ok (.aload_n 0, 1) := by decide +kernel
theorem dX12_tryPorts_58 : decode cX12_tryPorts 58 = .ok (.getfield 20, 3) := by decide +kernel
theorem dX12_tryPorts_61 : decode cX12_tryPorts 61 = .ok (.iconst 2, 1) := by decide +kernel
theorem dX12_tryPorts_62 : decode cX12_tryPorts 62 = .ok (.iaload, 1) := by decide +kernel
theorem dX12_tryPorts_63 : decode cX12_tryPorts 63 = .ok (.if_icmp .ge 59, 3) := by decide +kernel
theorem dX12_tryPorts_66 : decode cX12_tryPorts 66 = .ok (.aload_n 0, 1) := by decide +kernel
theorem dX12_tryPorts_67 : decode cX12_tryPorts 67 = .ok (.iload_n 3, 1) := by decide +kernel
theorem dX12_tryPorts_68 : decode cX12_tryPorts 68 = .ok (.iload 5, 2) := by decide +kernel
theorem dX12_tryPorts_70 : decode cX12_tryPorts 70 = .ok (.invokevirtual 327, 3) := by decide +kernel
theorem dX12_tryPorts_73 : decode cX12_tryPorts 73 = .ok (.ifCond .ne 6, 3) := by decide +kernel
theorem dX12_tryPorts_76 : decode cX12_tryPorts 76 = .ok (.goto 40, 3) := by decide +kernel
theorem dX12_tryPorts_79 : decode cX12_tryPorts 79 = .ok (.aload_n 0, 1) := by decide +kernel
theorem dX12_tryPorts_80 : decode cX12_tryPorts 80 = .ok (.getfield 41, 3) := by decide +kernel
theorem dX12_tryPorts_83 : decode cX12_tryPorts 83 = .ok (.iload_n 1, 1) := by decide +kernel
theorem dX12_tryPorts_84 : decode cX12_tryPorts 84 = .ok (.iload 5, 2) := by decide +kernel
theorem dX12_tryPorts_86 : decode cX12_tryPorts 86 = .ok (.iastore, 1) := by decide +kernel
theorem dX12_tryPorts_87 : decode cX12_tryPorts 87 = .ok (.aload_n 0, 1) := by decide +kernel
theorem dX12_tryPorts_88 : decode cX12_tryPorts 88 = .ok (.iload_n 1, 1) := by decide +kernel
theorem dX12_tryPorts_89 : decode cX12_tryPorts 89 = .ok (.iconst 1, 1) := by decide +kernel
theorem dX12_tryPorts_90 : decode cX12_tryPorts 90 = .ok (.iadd, 1) := by decide +kernel
theorem dX12_tryPorts_91 : decode cX12_tryPorts 91 = .ok (.iload_n 2, 1) := by decide +kernel
theorem dX12_tryPorts_92 : decode cX12_tryPorts 92 = .ok (.iload 5, 2) := by decide +kernel
theorem dX12_tryPorts_94 : decode cX12_tryPorts 94 = .ok (.iload 4, 2) := by decide +kernel
theorem dX12_tryPorts_96 : decode cX12_tryPorts 96 = .ok (.aload_n 0, 1) := by decide +kernel
theorem dX12_tryPorts_97 : decode cX12_tryPorts 97 = .ok (.iload 5, 2) := by decide +kernel
theorem dX12_tryPorts_99 : decode cX12_tryPorts 99 = .ok (.aload_n 0, 1) := by decide +kernel
theorem dX12_tryPorts_100 : decode cX12_tryPorts 100 = .ok (.getfield 26, 3) := by decide +kernel
theorem dX12_tryPorts_103 : decode cX12_tryPorts 103 = .ok (.iconst 0, 1) := by decide +kernel
theorem dX12_tryPorts_104 : decode cX12_tryPorts 104 = .ok (.iaload, 1) := by decide +kernel
theorem dX12_tryPorts_105 : decode cX12_tryPorts 105 = .ok (.iload_n 1, 1) := by decide +kernel
theorem dX12_tryPorts_106 : decode cX12_tryPorts 106 = .ok (.iadd, 1) := by decide +kernel
theorem dX12_tryPorts_107 : decode cX12_tryPorts 107 = .ok (.iconst 1, 1) := by decide +kernel
theorem dX12_tryPorts_108 : decode cX12_tryPorts 108 = .ok (.iadd, 1) := by decide +kernel
theorem dX12_tryPorts_109 : decode cX12_tryPorts 109 = .ok (.invokevirtual 347, 3) := by decide +kernel
theorem dX12_tryPorts_112 : decode cX12_tryPorts 112 = .ok (.ior, 1) := by decide +kernel
theorem dX12_tryPorts_113 : decode cX12_tryPorts 113 = .ok (.invokevirtual 350, 3) := by decide +kernel
theorem dX12_tryPorts_116 : decode cX12_tryPorts 116 = .ok (.iinc 5 1, 3) := by decide +kernel
theorem dX12_tryPorts_119 : decode cX12_tryPorts 119 = .ok (.goto (-64), 3) := by decide +kernel
theorem dX12_tryPorts_122 : decode cX12_tryPorts 122 = .ok (.return_, 1) := by decide +kernel
theorem dX12_lettersWhy_0 : decode cX12_lettersWhy 0 = .ok (.aload_n 0, 1) := by decide +kernel
theorem dX12_lettersWhy_1 : decode cX12_lettersWhy 1 = .ok (.aload_n 0, 1) := by decide +kernel
theorem dX12_lettersWhy_2 : decode cX12_lettersWhy 2 = .ok (.getfield 181, 3) := by decide +kernel
theorem dX12_lettersWhy_5 : decode cX12_lettersWhy 5 = .ok (.iload_n 1, 1) := by decide +kernel
theorem dX12_lettersWhy_6 : decode cX12_lettersWhy 6 = .ok (.iconst 0, 1) := by decide +kernel
theorem dX12_lettersWhy_7 : decode cX12_lettersWhy 7 = .ok (.iconst 5, 1) := by decide +kernel
theorem dX12_lettersWhy_8 : decode cX12_lettersWhy 8 = .ok (.invokestatic 150, 3) := by decide +kernel
theorem dX12_lettersWhy_11 : decode cX12_lettersWhy 11 = .ok (.invokevirtual 334, 3) := by decide +kernel
theorem dX12_lettersWhy_14 : decode cX12_lettersWhy 14 = .ok (.istore_n 2, 1) := by decide +kernel
theorem dX12_lettersWhy_15 : decode cX12_lettersWhy 15 = .ok (.iload_n 2, 1) := by decide +kernel
theorem dX12_lettersWhy_16 : decode cX12_lettersWhy 16 = .ok (.ifCond .eq 5, 3) := by decide +kernel
theorem dX12_lettersWhy_19 : decode cX12_lettersWhy 19 = .ok (.iload_n 2, 1) := by decide +kernel
theorem dX12_lettersWhy_20 : decode cX12_lettersWhy 20 = .ok (.ireturn, 1) := by decide +kernel
theorem dX12_lettersWhy_21 : decode cX12_lettersWhy 21 = .ok (.aload_n 0, 1) := by decide +kernel
theorem dX12_lettersWhy_22 : decode cX12_lettersWhy 22 = .ok (.iconst (-1), 1) := by decide +kernel
theorem dX12_lettersWhy_23 : decode cX12_lettersWhy 23 = .ok (.putfield 344, 3) := by decide +kernel
theorem dX12_lettersWhy_26 : decode cX12_lettersWhy 26 = .ok (.aload_n 0, 1) := by decide +kernel
theorem dX12_lettersWhy_27 : decode cX12_lettersWhy 27 = .ok (.iconst 0, 1) := by decide +kernel
theorem dX12_lettersWhy_28 : decode cX12_lettersWhy 28 = .ok (.iload_n 1, 1) := by decide +kernel
theorem dX12_lettersWhy_29 : decode cX12_lettersWhy 29 = .ok (.aload_n 0, 1) := by decide +kernel
theorem dX12_lettersWhy_30 : decode cX12_lettersWhy 30 = .ok (.getfield 26, 3) := by decide +kernel
theorem dX12_lettersWhy_33 : decode cX12_lettersWhy 33 = .ok (.iconst 1, 1) := by decide +kernel
theorem dX12_lettersWhy_34 : decode cX12_lettersWhy 34 = .ok (.iaload, 1) := by decide +kernel
theorem dX12_lettersWhy_35 : decode cX12_lettersWhy 35 = .ok (.aload_n 0, 1) := by decide +kernel
theorem dX12_lettersWhy_36 : decode cX12_lettersWhy 36 = .ok (.getfield 26, 3) := by decide +kernel
theorem dX12_lettersWhy_39 : decode cX12_lettersWhy 39 = .ok (.iconst 5, 1) := by decide +kernel
theorem dX12_lettersWhy_40 : decode cX12_lettersWhy 40 = .ok (.iaload, 1) := by decide +kernel
theorem dX12_lettersWhy_41 : decode cX12_lettersWhy 41 = .ok (.invokevirtual 350, 3) := by decide +kernel
theorem dX12_lettersWhy_44 : decode cX12_lettersWhy 44 = .ok (.iconst 0, 1) := by decide +kernel
theorem dX12_lettersWhy_45 : decode cX12_lettersWhy 45 = .ok (.ireturn, 1) := by decide +kernel
theorem dX12_letters_0 : decode cX12_letters 0 = .ok (.aload_n 0, 1) := by decide +kernel
theorem dX12_letters_1 : decode cX12_letters 1 = .ok (.invokevirtual 168, 3) := by decide +kernel
theorem dX12_letters_4 : decode cX12_letters 4 = .ok (.aload_n 0, 1) := by decide +kernel
theorem dX12_letters_5 : decode cX12_letters 5 = .ok (.iload_n 1, 1) := by decide +kernel
theorem dX12_letters_6 : decode cX12_letters 6 = .ok (.invokevirtual 354, 3) := by decide +kernel
theorem dX12_letters_9 : decode cX12_letters 9 = .ok (.istore_n 2, 1) := by decide +kernel
theorem dX12_letters_10 : decode cX12_letters 10 = .ok (.iload_n 2, 1) := by decide +kernel
theorem dX12_letters_11 : decode cX12_letters 11 = .ok (.ifCond .eq 11, 3) := by decide +kernel
theorem dX12_letters_14 : decode cX12_letters 14 = .ok (.aload_n 0, 1) := by decide +kernel
theorem dX12_letters_15 : decode cX12_letters 15 = .ok (.iload_n 2, 1) := by decide +kernel
theorem dX12_letters_16 : decode cX12_letters 16 = .ok (.invokevirtual 171, 3) := by decide +kernel
theorem dX12_letters_19 : decode cX12_letters 19 = .ok (.goto 7, 3) := by decide +kernel
theorem dX12_letters_22 : decode cX12_letters 22 = .ok (.aload_n 0, 1) := by decide +kernel
theorem dX12_letters_23 : decode cX12_letters 23 = .ok (.getfield 344, 3) := by decide +kernel
theorem dX12_letters_26 : decode cX12_letters 26 = .ok (.ireturn, 1) := by decide +kernel
theorem dX12_lettersAt_0 : decode cX12_lettersAt 0 = .ok (.aload_n 0, 1) := by decide +kernel
theorem dX12_lettersAt_1 : decode cX12_lettersAt 1 = .ok (.invokevirtual 168, 3) := by decide +kernel
theorem dX12_lettersAt_4 : decode cX12_lettersAt 4 = .ok (.aload_n 0, 1) := by decide +kernel
theorem dX12_lettersAt_5 : decode cX12_lettersAt 5 = .ok (.iload_n 1, 1) := by decide +kernel
theorem dX12_lettersAt_6 : decode cX12_lettersAt 6 = .ok (.invokevirtual 354, 3) := by decide +kernel
theorem dX12_lettersAt_9 : decode cX12_lettersAt 9 = .ok (.istore_n 3, 1) := by decide +kernel
theorem dX12_lettersAt_10 : decode cX12_lettersAt 10 = .ok (.iload_n 3, 1) := by decide +kernel
theorem dX12_lettersAt_11 : decode cX12_lettersAt 11 = .ok (.ifCond .ne 16, 3) := by decide +kernel
theorem dX12_lettersAt_14 : decode cX12_lettersAt 14 = .ok (.iload_n 2, 1) := by decide +kernel
theorem dX12_lettersAt_15 : decode cX12_lettersAt 15 = .ok (.iconst 0, 1) := by decide +kernel
theorem dX12_lettersAt_16 : decode cX12_lettersAt 16 = .ok (.iload_n 1, 1) := by decide +kernel
theorem dX12_lettersAt_17 : decode cX12_lettersAt 17 = .ok (.iconst 1, 1) := by decide +kernel
theorem dX12_lettersAt_18 : decode cX12_lettersAt 18 = .ok (.isub, 1) := by decide +kernel
theorem dX12_lettersAt_19 : decode cX12_lettersAt 19 = .ok (.invokestatic 150, 3) := by decide +kernel
theorem dX12_lettersAt_22 : decode cX12_lettersAt 22 = .ok (.ifCond .ne 5, 3) := by decide +kernel
theorem dX12_lettersAt_25 : decode cX12_lettersAt 25 = .ok (.iconst 1, 1) := by decide +kernel
theorem dX12_lettersAt_26 : decode cX12_lettersAt 26 = .ok (.istore_n 3, 1) := by decide +kernel
theorem dX12_lettersAt_27 : decode cX12_lettersAt 27 = .ok (.iload_n 3, 1) := by decide +kernel
theorem dX12_lettersAt_28 : decode cX12_lettersAt 28 = .ok (.ifCond .eq 11, 3) := by decide +kernel
theorem dX12_lettersAt_31 : decode cX12_lettersAt 31 = .ok (.aload_n 0, 1) := by decide +kernel
theorem dX12_lettersAt_32 : decode cX12_lettersAt 32 = .ok (.iload_n 3, 1) := by decide +kernel
theorem dX12_lettersAt_33 : decode cX12_lettersAt 33 = .ok (.invokevirtual 171, 3) := by decide +kernel
theorem dX12_lettersAt_36 : decode cX12_lettersAt 36 = .ok (.goto 9, 3) := by decide +kernel
theorem dX12_lettersAt_39 : decode cX12_lettersAt 39 = .ok (.aload_n 0, 1) := by decide +kernel
theorem dX12_lettersAt_40 : decode cX12_lettersAt 40 = .ok (.getfield 44, 3) := by decide +kernel
theorem dX12_lettersAt_43 : decode cX12_lettersAt 43 = .ok (.iload_n 2, 1) := by decide +kernel
theorem dX12_lettersAt_44 : decode cX12_lettersAt 44 = .ok (.iaload, 1) := by decide +kernel
theorem dX12_lettersAt_45 : decode cX12_lettersAt 45 = .ok (.ireturn, 1) := by decide +kernel
theorem dX12_soonestAt_0 : decode cX12_soonestAt 0 = .ok (.aload_n 0, 1) := by decide +kernel
theorem dX12_soonestAt_1 : decode cX12_soonestAt 1 = .ok (.getfield 26, 3) := by decide +kernel
theorem dX12_soonestAt_4 : decode cX12_soonestAt 4 = .ok (.iconst 2, 1) := by decide +kernel
theorem dX12_soonestAt_5 : decode cX12_soonestAt 5 = .ok (.iaload, 1) := by decide +kernel
theorem dX12_soonestAt_6 : decode cX12_soonestAt 6 = .ok (.ifCond .le 8, 3) := by decide +kernel
theorem dX12_soonestAt_9 : decode cX12_soonestAt 9 = .ok (.bipush (-2), 2) := by decide +kernel
theorem dX12_soonestAt_11 : decode cX12_soonestAt 11 = .ok (.goto 14, 3) := by decide +kernel
theorem dX12_soonestAt_14 : decode cX12_soonestAt 14 = .ok (.aload_n 0, 1) := by decide +kernel
theorem dX12_soonestAt_15 : decode cX12_soonestAt 15 = .ok (.aload_n 0, 1) := by decide +kernel
theorem dX12_soonestAt_16 : decode cX12_soonestAt 16 = .ok (.getfield 26, 3) := by decide +kernel
theorem dX12_soonestAt_19 : decode cX12_soonestAt 19 = .ok (.iconst 1, 1) := by decide +kernel
theorem dX12_soonestAt_20 : decode cX12_soonestAt 20 = .ok (.iaload, 1) := by decide +kernel
theorem dX12_soonestAt_21 : decode cX12_soonestAt 21 = .ok (.iload_n 1, 1) := by decide +kernel
theorem dX12_soonestAt_22 : decode cX12_soonestAt 22 = .ok (.invokevirtual 314, 3) := by decide +kernel
theorem dX12_soonestAt_25 : decode cX12_soonestAt 25 = .ok (.istore_n 2, 1) := by decide +kernel
theorem dX12_soonestAt_26 : decode cX12_soonestAt 26 = .ok (.iload_n 2, 1) := by decide +kernel
theorem dX12_soonestAt_27 : decode cX12_soonestAt 27 = .ok (.ifCond .ge 8, 3) := by decide +kernel
theorem dX12_soonestAt_30 : decode cX12_soonestAt 30 = .ok (.bipush (-2), 2) := by decide +kernel
theorem dX12_soonestAt_32 : decode cX12_soonestAt 32 = .ok (.goto 19, 3) := by decide +kernel
theorem dX12_soonestAt_35 : decode cX12_soonestAt 35 = .ok (.aload_n 0, 1) := by decide +kernel
theorem dX12_soonestAt_36 : decode cX12_soonestAt 36 = .ok (.getfield 26, 3) := by decide +kernel
theorem dX12_soonestAt_39 : decode cX12_soonestAt 39 = .ok (.iconst 0, 1) := by decide +kernel
theorem dX12_soonestAt_40 : decode cX12_soonestAt 40 = .ok (.iaload, 1) := by decide +kernel
theorem dX12_soonestAt_41 : decode cX12_soonestAt 41 = .ok (.iload_n 2, 1) := by decide +kernel
theorem dX12_soonestAt_42 : decode cX12_soonestAt 42 = .ok (.ifCond .ne 7, 3) := by decide +kernel
theorem dX12_soonestAt_45 : decode cX12_soonestAt 45 = .ok (.iconst 1, 1) := by decide +kernel
theorem dX12_soonestAt_46 : decode cX12_soonestAt 46 = .ok (.goto 4, 3) := by decide +kernel
theorem dX12_soonestAt_49 : decode cX12_soonestAt 49 = .ok (.iload_n 2, 1) := by decide +kernel
theorem dX12_soonestAt_50 : decode cX12_soonestAt 50 = .ok (.iadd, 1) := by decide +kernel
theorem dX12_soonestAt_51 : decode cX12_soonestAt 51 = .ok (.ireturn, 1) := by decide +kernel
theorem dX12_soonest_0 : decode cX12_soonest 0 = .ok (.aload_n 0, 1) := by decide +kernel
theorem dX12_soonest_1 : decode cX12_soonest 1 = .ok (.invokevirtual 168, 3) := by decide +kernel
theorem dX12_soonest_4 : decode cX12_soonest 4 = .ok (.aload_n 0, 1) := by decide +kernel
theorem dX12_soonest_5 : decode cX12_soonest 5 = .ok (.iload_n 1, 1) := by decide +kernel
theorem dX12_soonest_6 : decode cX12_soonest 6 = .ok (.invokevirtual 269, 3) := by decide +kernel
theorem dX12_soonest_9 : decode cX12_soonest 9 = .ok (.ifCond .eq 11, 3) := by decide +kernel
theorem dX12_soonest_12 : decode cX12_soonest 12 = .ok (.aload_n 0, 1) := by decide +kernel
theorem dX12_soonest_13 : decode cX12_soonest 13 = .ok (.iload_n 1, 1) := by decide +kernel
theorem dX12_soonest_14 : decode cX12_soonest 14 = .ok (.invokevirtual 357, 3) := by decide +kernel
theorem dX12_soonest_17 : decode cX12_soonest 17 = .ok (.goto 8, 3) := by decide +kernel
theorem dX12_soonest_20 : decode cX12_soonest 20 = .ok (.aload_n 0, 1) := by decide +kernel
theorem dX12_soonest_21 : decode cX12_soonest 21 = .ok (.iconst 1, 1) := by decide +kernel
theorem dX12_soonest_22 : decode cX12_soonest 22 = .ok (.invokevirtual 171, 3) := by decide +kernel
theorem dX12_soonest_25 : decode cX12_soonest 25 = .ok (.ireturn, 1) := by decide +kernel
theorem dX12_lost_0 : decode cX12_lost 0 = .ok (.aload_n 0, 1) := by decide +kernel
theorem dX12_lost_1 : decode cX12_lost 1 = .ok (.invokevirtual 168, 3) := by decide +kernel
theorem dX12_lost_4 : decode cX12_lost 4 = .ok (.aload_n 0, 1) := by decide +kernel
theorem dX12_lost_5 : decode cX12_lost 5 = .ok (.getfield 181, 3) := by decide +kernel
theorem dX12_lost_8 : decode cX12_lost 8 = .ok (.ifCond .ne 9, 3) := by decide +kernel
theorem dX12_lost_11 : decode cX12_lost 11 = .ok (.aload_n 0, 1) := by decide +kernel
theorem dX12_lost_12 : decode cX12_lost 12 = .ok (.iconst 1, 1) := by decide +kernel
theorem dX12_lost_13 : decode cX12_lost 13 = .ok (.invokevirtual 171, 3) := by decide +kernel
theorem dX12_lost_16 : decode cX12_lost 16 = .ok (.ireturn, 1) := by decide +kernel
theorem dX12_lost_17 : decode cX12_lost 17 = .ok (.iconst 0, 1) := by decide +kernel
theorem dX12_lost_18 : decode cX12_lost 18 = .ok (.istore_n 1, 1) := by decide +kernel
theorem dX12_lost_19 : decode cX12_lost 19 = .ok (.iconst 0, 1) := by decide +kernel
theorem dX12_lost_20 : decode cX12_lost 20 = .ok (.istore_n 2, 1) := by decide +kernel
theorem dX12_lost_21 : decode cX12_lost 21 = .ok (.iload_n 2, 1) := by decide +kernel
theorem dX12_lost_22 : decode cX12_lost 22 = .ok (.aload_n 0, 1) := by decide +kernel
theorem dX12_lost_23 : decode cX12_lost 23 = .ok (.getfield 20, 3) := by decide +kernel
theorem dX12_lost_26 : decode cX12_lost 26 = .ok (.bipush 6, 2) := by decide +kernel
theorem dX12_lost_28 : decode cX12_lost 28 = .ok (.iaload, 1) := by decide +kernel
theorem dX12_lost_29 : decode cX12_lost 29 = .ok (.if_icmp .ge 69, 3) := by decide +kernel
theorem dX12_lost_32 : decode cX12_lost 32 = .ok (.aload_n 0, 1) := by decide +kernel
theorem dX12_lost_33 : decode cX12_lost 33 = .ok (.aload_n 0, 1) := by decide +kernel
theorem dX12_lost_34 : decode cX12_lost 34 = .ok (.getfield 20, 3) := by decide +kernel
theorem dX12_lost_37 : decode cX12_lost 37 = .ok (.bipush 75, 2) := by decide +kernel
theorem dX12_lost_39 : decode cX12_lost 39 = .ok (.iconst 2, 1) := by decide +kernel
theorem dX12_lost_40 : decode cX12_lost 40 = .ok (.iload_n 2, 1) := by decide +kernel
theorem dX12_lost_41 : decode cX12_lost 41 = .ok (.imul, 1) := by decide +kernel
theorem dX12_lost_42 : decode cX12_lost 42 = .ok (.iadd, 1) := by decide +kernel
theorem dX12_lost_43 : decode cX12_lost 43 = .ok (.iaload, 1) := by decide +kernel
theorem dX12_lost_44 : decode cX12_lost 44 = .ok (.invokevirtual 357, 3) := by decide +kernel
theorem dX12_lost_47 : decode cX12_lost 47 = .ok (.istore_n 3, 1) := by decide +kernel
theorem dX12_lost_48 : decode cX12_lost 48 = .ok (.iload_n 1, 1) := by decide +kernel
theorem dX12_lost_49 : decode cX12_lost 49 = .ok (.aload_n 0, 1) := by decide +kernel
theorem dX12_lost_50 : decode cX12_lost 50 = .ok (.getfield 26, 3) := by decide +kernel
theorem dX12_lost_53 : decode cX12_lost 53 = .ok (.iconst 5, 1) := by decide +kernel
theorem dX12_lost_54 : decode cX12_lost 54 = .ok (.iaload, 1) := by decide +kernel
theorem dX12_lost_55 : decode cX12_lost 55 = .ok (.iload_n 2, 1) := by decide +kernel
theorem dX12_lost_56 : decode cX12_lost 56 = .ok (.invokestatic 237, 3) := by decide +kernel
theorem dX12_lost_59 : decode cX12_lost 59 = .ok (.ifCond .ne 30, 3) := by decide +kernel
theorem dX12_lost_62 : decode cX12_lost 62 = .ok (.iload_n 3, 1) := by decide +kernel
theorem dX12_lost_63 : decode cX12_lost 63 = .ok (.ifCond .lt 20, 3) := by decide +kernel
theorem dX12_lost_66 : decode cX12_lost 66 = .ok (.iload_n 3, 1) := by decide +kernel
theorem dX12_lost_67 : decode cX12_lost 67 = .ok (.aload_n 0, 1) := by decide +kernel
theorem dX12_lost_68 : decode cX12_lost 68 = .ok (.getfield 20, 3) := by decide +kernel
theorem dX12_lost_71 : decode cX12_lost 71 = .ok (.bipush 75, 2) := by decide +kernel
theorem dX12_lost_73 : decode cX12_lost 73 = .ok (.iconst 2, 1) := by decide +kernel
theorem dX12_lost_74 : decode cX12_lost 74 = .ok (.iload_n 2, 1) := by decide +kernel
theorem dX12_lost_75 : decode cX12_lost 75 = .ok (.imul, 1) := by decide +kernel
theorem dX12_lost_76 : decode cX12_lost 76 = .ok (.iadd, 1) := by decide +kernel
theorem dX12_lost_77 : decode cX12_lost 77 = .ok (.iconst 1, 1) := by decide +kernel
theorem dX12_lost_78 : decode cX12_lost 78 = .ok (.iadd, 1) := by decide +kernel
theorem dX12_lost_79 : decode cX12_lost 79 = .ok (.iaload, 1) := by decide +kernel
theorem dX12_lost_80 : decode cX12_lost 80 = .ok (.if_icmp .le 9, 3) := by decide +kernel
theorem dX12_lost_83 : decode cX12_lost 83 = .ok (.iconst 1, 1) := by decide +kernel
theorem dX12_lost_84 : decode cX12_lost 84 = .ok (.iload_n 2, 1) := by decide +kernel
theorem dX12_lost_85 : decode cX12_lost 85 = .ok (.ishl, 1) := by decide +kernel
theorem dX12_lost_86 : decode cX12_lost 86 = .ok (.goto 4, 3) := by decide +kernel
theorem dX12_lost_89 : decode cX12_lost 89 = .ok (.iconst 0, 1) := by decide +kernel
theorem dX12_lost_90 : decode cX12_lost 90 = .ok (.ior, 1) := by decide +kernel
theorem dX12_lost_91 : decode cX12_lost 91 = .ok (.istore_n 1, 1) := by decide +kernel
theorem dX12_lost_92 : decode cX12_lost 92 = .ok (.iinc 2 1, 3) := by decide +kernel
theorem dX12_lost_95 : decode cX12_lost 95 = .ok (.goto (-74), 3) := by decide +kernel
theorem dX12_lost_98 : decode cX12_lost 98 = .ok (.iload_n 1, 1) := by decide +kernel
theorem dX12_lost_99 : decode cX12_lost 99 = .ok (.ireturn, 1) := by decide +kernel
theorem dX12_bells_0 : decode cX12_bells 0 = .ok (.aload_n 0, 1) := by decide +kernel
theorem dX12_bells_1 : decode cX12_bells 1 = .ok (.invokevirtual 168, 3) := by decide +kernel
theorem dX12_bells_4 : decode cX12_bells 4 = .ok (.aload_n 0, 1) := by decide +kernel
theorem dX12_bells_5 : decode cX12_bells 5 = .ok (.getfield 181, 3) := by decide +kernel
theorem dX12_bells_8 : decode cX12_bells 8 = .ok (.ifCond .ne 9, 3) := by decide +kernel
theorem dX12_bells_11 : decode cX12_bells 11 = .ok (.aload_n 0, 1) := by decide +kernel
theorem dX12_bells_12 : decode cX12_bells 12 = .ok (.iconst 1, 1) := by decide +kernel
theorem dX12_bells_13 : decode cX12_bells 13 = .ok (.invokevirtual 171, 3) := by decide +kernel
theorem dX12_bells_16 : decode cX12_bells 16 = .ok (.ireturn, 1) := by decide +kernel
theorem dX12_bells_17 : decode cX12_bells 17 = .ok (.iconst 1, 1) := by decide +kernel
theorem dX12_bells_18 : decode cX12_bells 18 = .ok (.aload_n 0, 1) := by decide +kernel
theorem dX12_bells_19 : decode cX12_bells 19 = .ok (.getfield 20, 3) := by decide +kernel
theorem dX12_bells_22 : decode cX12_bells 22 = .ok (.iconst 2, 1) := by decide +kernel
theorem dX12_bells_23 : decode cX12_bells 23 = .ok (.iaload, 1) := by decide +kernel
theorem dX12_bells_24 : decode cX12_bells 24 = .ok (.ishl, 1) := by decide +kernel
theorem dX12_bells_25 : decode cX12_bells 25 = .ok (.iconst 1, 1) := by decide +kernel
theorem dX12_bells_26 : decode cX12_bells 26 = .ok (.isub, 1) := by decide +kernel
theorem dX12_bells_27 : decode cX12_bells 27 = .ok (.istore_n 1, 1) := by decide +kernel
theorem dX12_bells_28 : decode cX12_bells 28 = .ok (.iconst 0, 1) := by decide +kernel
theorem dX12_bells_29 : decode cX12_bells 29 = .ok (.istore_n 2, 1) := by decide +kernel
theorem dX12_bells_30 : decode cX12_bells 30 = .ok (.iload_n 2, 1) := by decide +kernel
theorem dX12_bells_31 : decode cX12_bells 31 = .ok (.iconst 1, 1) := by decide +kernel
theorem dX12_bells_32 : decode cX12_bells 32 = .ok (.aload_n 0, 1) := by decide +kernel
theorem dX12_bells_33 : decode cX12_bells 33 = .ok (.getfield 20, 3) := by decide +kernel
theorem dX12_bells_36 : decode cX12_bells 36 = .ok (.iconst 2, 1) := by decide +kernel
theorem dX12_bells_37 : decode cX12_bells 37 = .ok (.iaload, 1) := by decide +kernel
theorem dX12_bells_38 : decode cX12_bells 38 = .ok (.ishl, 1) := by decide +kernel
theorem dX12_bells_39 : decode cX12_bells 39 = .ok (.if_icmp .ge 81, 3) := by decide +kernel
theorem dX12_bells_42 : decode cX12_bells 42 = .ok (.iload_n 2, 1) := by decide +kernel
theorem dX12_bells_43 : decode cX12_bells 43 = .ok (.istore_n 3, 1) := by decide +kernel
theorem dX12_bells_44 : decode cX12_bells 44 = .ok (.iconst 0, 1) := by decide +kernel
theorem dX12_bells_45 : decode cX12_bells 45 = .ok (.istore 4, 2) := by decide +kernel
theorem dX12_bells_47 : decode cX12_bells 47 = .ok (.iload 4, 2) := by decide +kernel
theorem dX12_bells_49 : decode cX12_bells 49 = .ok (.aload_n 0, 1) := by decide +kernel
theorem dX12_bells_50 : decode cX12_bells 50 = .ok (.getfield 20, 3) := by decide +kernel
theorem dX12_bells_53 : decode cX12_bells 53 = .ok (.iconst 2, 1) := by decide +kernel
theorem dX12_bells_54 : decode cX12_bells 54 = .ok (.iaload, 1) := by decide +kernel
theorem dX12_bells_55 : decode cX12_bells 55 = .ok (.if_icmp .ge 32, 3) := by decide +kernel
theorem dX12_bells_58 : decode cX12_bells 58 = .ok (.iload_n 3, 1) := by decide +kernel
theorem dX12_bells_59 : decode cX12_bells 59 = .ok (.iload_n 2, 1) := by decide +kernel
theorem dX12_bells_60 : decode cX12_bells 60 = .ok (.iload 4, 2) := by decide +kernel
theorem dX12_bells_62 : decode cX12_bells 62 = .ok (.invokestatic 237, 3) := by decide +kernel
theorem dX12_bells_65 : decode cX12_bells 65 = .ok (.ifCond .eq 13, 3) := by decide +kernel
theorem dX12_bells_68 : decode cX12_bells 68 = .ok (.aload_n 0, 1) := by decide +kernel
theorem dX12_bells_69 : decode cX12_bells 69 = .ok (.iload 4, 2) := by decide +kernel
theorem dX12_bells_71 : decode cX12_bells 71 = .ok (.iconst 2, 1) := by decide +kernel
theorem dX12_bells_72 : decode cX12_bells 72 = .ok (.invokevirtual 272, 3) := by decide +kernel
theorem dX12_bells_75 : decode cX12_bells 75 = .ok (.goto 4, 3) := by decide +kernel
theorem dX12_bells_78 : decode cX12_bells 78 = .ok (.iconst 0, 1) := by decide +kernel
theorem dX12_bells_79 : decode cX12_bells 79 = .ok (.ior, 1) := by decide +kernel
theorem dX12_bells_80 : decode cX12_bells 80 = .ok (.istore_n 3, 1) := by decide +kernel
theorem dX12_bells_81 : decode cX12_bells 81 = .ok (.iinc 4 1, 3) := by decide +kernel
theorem dX12_bells_84 : decode cX12_bells 84 = .ok (.goto (-37), 3) := by decide +kernel
theorem dX12_bells_87 : decode cX12_bells 87 = .ok (.iload_n 3, 1) := by decide +kernel
theorem dX12_bells_88 : decode cX12_bells 88 = .ok (.iconst 1, 1) := by decide +kernel
theorem dX12_bells_89 : decode cX12_bells 89 = .ok (.aload_n 0, 1) := by decide +kernel
theorem dX12_bells_90 : decode cX12_bells 90 = .ok (.getfield 20, 3) := by decide +kernel
theorem dX12_bells_93 : decode cX12_bells 93 = .ok (.iconst 2, 1) := by decide +kernel
theorem dX12_bells_94 : decode cX12_bells 94 = .ok (.iaload, 1) := by decide +kernel
theorem dX12_bells_95 : decode cX12_bells 95 = .ok (.ishl, 1) := by decide +kernel
theorem dX12_bells_96 : decode cX12_bells 96 = .ok (.iconst 1, 1) := by decide +kernel
theorem dX12_bells_97 : decode cX12_bells 97 = .ok (.isub, 1) := by decide +kernel
theorem dX12_bells_98 : decode cX12_bells 98 = .ok (.if_icmp .ne 16, 3) := by decide +kernel
theorem dX12_bells_101 : decode cX12_bells 101 = .ok (.iload_n 2, 1) := by decide +kernel
theorem dX12_bells_102 : decode cX12_bells 102 = .ok (.invokestatic 341, 3) := by decide +kernel
theorem dX12_bells_105 : decode cX12_bells 105 = .ok (.iload_n 1, 1) := by decide +kernel
theorem dX12_bells_106 : decode cX12_bells 106 = .ok (.invokestatic 341, 3) := by decide +kernel
theorem dX12_bells_109 : decode cX12_bells 109 = .ok (.if_icmp .ge 5, 3) := by decide +kernel
theorem dX12_bells_112 : decode cX12_bells 112 = .ok (.iload_n 2, 1) := by decide +kernel
theorem dX12_bells_113 : decode cX12_bells 113 = .ok (.istore_n 1, 1) := by decide +kernel
theorem dX12_bells_114 : decode cX12_bells 114 = .ok (.iinc 2 1, 3) := by decide +kernel
theorem dX12_bells_117 : decode cX12_bells 117 = .ok (.goto (-87), 3) := by decide +kernel
theorem dX12_bells_120 : decode cX12_bells 120 = .ok (.iload_n 1, 1) := by decide +kernel
theorem dX12_bells_121 : decode cX12_bells 121 = .ok (.ireturn, 1) := by decide +kernel
theorem dX12_bidOf_0 : decode cX12_bidOf 0 = .ok (.iload_n 2, 1) := by decide +kernel
theorem dX12_bidOf_1 : decode cX12_bidOf 1 = .ok (.iload_n 1, 1) := by decide +kernel
theorem dX12_bidOf_2 : decode cX12_bidOf 2 = .ok (.if_icmp .ge 7, 3) := by decide +kernel
theorem dX12_bidOf_5 : decode cX12_bidOf 5 = .ok (.iconst 0, 1) := by decide +kernel
theorem dX12_bidOf_6 : decode cX12_bidOf 6 = .ok (.goto 14, 3) := by decide +kernel
theorem dX12_bidOf_9 : decode cX12_bidOf 9 = .ok (.iload_n 3, 1) := by decide +kernel
theorem dX12_bidOf_10 : decode cX12_bidOf 10 = .ok (.ifCond .eq 9, 3) := by decide +kernel
theorem dX12_bidOf_13 : decode cX12_bidOf 13 = .ok (.iload_n 0, 1) := by decide +kernel
theorem dX12_bidOf_14 : decode cX12_bidOf 14 = .ok (.iload_n 2, 1) := by decide +kernel
theorem dX12_bidOf_15 : decode cX12_bidOf 15 = .ok (.isub, 1) := by decide +kernel
theorem dX12_bidOf_16 : decode cX12_bidOf 16 = .ok (.goto 4, 3) := by decide +kernel
theorem dX12_bidOf_19 : decode cX12_bidOf 19 = .ok (.iload_n 2, 1) := by decide +kernel
theorem dX12_bidOf_20 : decode cX12_bidOf 20 = .ok (.ireturn, 1) := by decide +kernel
theorem dX12_bid_0 : decode cX12_bid 0 = .ok (.aload_n 0, 1) := by decide +kernel
theorem dX12_bid_1 : decode cX12_bid 1 = .ok (.invokevirtual 168, 3) := by decide +kernel
theorem dX12_bid_4 : decode cX12_bid 4 = .ok (.aload_n 0, 1) := by decide +kernel
theorem dX12_bid_5 : decode cX12_bid 5 = .ok (.getfield 181, 3) := by decide +kernel
theorem dX12_bid_8 : decode cX12_bid 8 = .ok (.ifCond .eq 42, 3) := by decide +kernel
theorem dX12_bid_11 : decode cX12_bid 11 = .ok (.iload_n 1, 1) := by decide +kernel
theorem dX12_bid_12 : decode cX12_bid 12 = .ok (.iconst 0, 1) := by decide +kernel
theorem dX12_bid_13 : decode cX12_bid 13 = .ok (.bipush 99, 2) := by decide +kernel
theorem dX12_bid_15 : decode cX12_bid 15 = .ok (.invokestatic 150, 3) := by decide +kernel
theorem dX12_bid_18 : decode cX12_bid 18 = .ok (.ifCond .eq 32, 3) := by decide +kernel
theorem dX12_bid_21 : decode cX12_bid 21 = .ok (.iload_n 2, 1) := by decide +kernel
theorem dX12_bid_22 : decode cX12_bid 22 = .ok (.iconst 0, 1) := by decide +kernel
theorem dX12_bid_23 : decode cX12_bid 23 = .ok (.bipush 9, 2) := by decide +kernel
theorem dX12_bid_25 : decode cX12_bid 25 = .ok (.invokestatic 150, 3) := by decide +kernel
theorem dX12_bid_28 : decode cX12_bid 28 = .ok (.ifCond .eq 22, 3) := by decide +kernel
theorem dX12_bid_31 : decode cX12_bid 31 = .ok (.iload_n 3, 1) := by decide +kernel
theorem dX12_bid_32 : decode cX12_bid 32 = .ok (.iconst 0, 1) := by decide +kernel
theorem dX12_bid_33 : decode cX12_bid 33 = .ok (.bipush 9, 2) := by decide +kernel
theorem dX12_bid_35 : decode cX12_bid 35 = .ok (.invokestatic 150, 3) := by decide +kernel
theorem dX12_bid_38 : decode cX12_bid 38 = .ok (.ifCond .eq 12, 3) := by decide +kernel
theorem dX12_bid_41 : decode cX12_bid 41 = .ok (.iload_n 1, 1) := by decide +kernel
theorem dX12_bid_42 : decode cX12_bid 42 = .ok (.iload_n 2, 1) := by decide +kernel
theorem dX12_bid_43 : decode cX12_bid 43 = .ok (.iload_n 3, 1) := by decide +kernel
theorem dX12_bid_44 : decode cX12_bid 44 = .ok (.iload 4, 2) := by decide +kernel
theorem dX12_bid_46 : decode cX12_bid 46 = .ok (.invokestatic 360, 3) := by decide +kernel
theorem dX12_bid_49 : decode cX12_bid 49 = .ok (.ireturn, 1) := by decide +kernel
theorem dX12_bid_50 : decode cX12_bid 50 = .ok (.aload_n 0, 1) := by decide +kernel
theorem dX12_bid_51 : decode cX12_bid 51 = .ok (.aload_n 0, 1) := by decide +kernel
theorem dX12_bid_52 : decode cX12_bid 52 = .ok (.getfield 181, 3) := by decide +kernel
theorem dX12_bid_55 : decode cX12_bid 55 = .ok (.ifCond .eq 7, 3) := by decide +kernel
theorem dX12_bid_58 : decode cX12_bid 58 = .ok (.iconst 2, 1) := by decide +kernel
theorem dX12_bid_59 : decode cX12_bid 59 = .ok (.goto 4, 3) := by decide +kernel
theorem dX12_bid_62 : decode cX12_bid 62 = .ok (.iconst 1, 1) := by decide +kernel
theorem dX12_bid_63 : decode cX12_bid 63 = .ok (.putfield 62, 3) := by decide +kernel
theorem dX12_bid_66 : decode cX12_bid 66 = .ok (.bipush (-100), 2) := by decide +kernel
theorem dX12_bid_68 : decode cX12_bid 68 = .ok (.ireturn, 1) := by decide +kernel
theorem dX12_isRest_0 : decode cX12_isRest 0 = .ok (.iconst 1, 1) := by decide +kernel
theorem dX12_isRest_1 : decode cX12_isRest 1 = .ok (.istore_n 3, 1) := by decide +kernel
theorem dX12_isRest_2 : decode cX12_isRest 2 = .ok (.iconst 0, 1) := by decide +kernel
theorem dX12_isRest_3 : decode cX12_isRest 3 = .ok (.istore 4, 2) := by decide +kernel
theorem dX12_isRest_5 : decode cX12_isRest 5 = .ok (.iload 4, 2) := by decide +kernel
theorem dX12_isRest_7 : decode cX12_isRest 7 = .ok (.bipush 9, 2) := by decide +kernel
theorem dX12_isRest_9 : decode cX12_isRest 9 = .ok (.if_icmp .gt 55, 3) := by decide +kernel
theorem dX12_isRest_12 : decode cX12_isRest 12 = .ok (.iload_n 3, 1) := by decide +kernel
theorem dX12_isRest_13 : decode cX12_isRest 13 = .ok (.ifCond .eq 43, 3) := by decide +kernel
theorem dX12_isRest_16 : decode cX12_isRest 16 = .ok (.iload_n 0, 1) := by decide +kernel
theorem dX12_isRest_17 : decode cX12_isRest 17 = .ok (.iload 4, 2) := by decide +kernel
theorem dX12_isRest_19 : decode cX12_isRest 19 = .ok (.iload_n 2, 1) := by decide +kernel
theorem dX12_isRest_20 : decode cX12_isRest 20 = .ok (.iconst 0, 1) := by decide +kernel
theorem dX12_isRest_21 : decode cX12_isRest 21 = .ok (.invokestatic 360, 3) := by decide +kernel
theorem dX12_isRest_24 : decode cX12_isRest 24 = .ok (.iload_n 0, 1) := by decide +kernel
theorem dX12_isRest_25 : decode cX12_isRest 25 = .ok (.iload_n 1, 1) := by decide +kernel
theorem dX12_isRest_26 : decode cX12_isRest 26 = .ok (.iload_n 2, 1) := by decide +kernel
theorem dX12_isRest_27 : decode cX12_isRest 27 = .ok (.iconst 0, 1) := by decide +kernel
theorem dX12_isRest_28 : decode cX12_isRest 28 = .ok (.invokestatic 360, 3) := by decide +kernel
theorem dX12_isRest_31 : decode cX12_isRest 31 = .ok (.if_icmp .gt 25, 3) := by decide +kernel
theorem dX12_isRest_34 : decode cX12_isRest 34 = .ok (.iload_n 0, 1) := by decide +kernel
theorem dX12_isRest_35 : decode cX12_isRest 35 = .ok (.iload_n 1, 1) := by decide +kernel
theorem dX12_isRest_36 : decode cX12_isRest 36 = .ok (.iload 4, 2) := by decide +kernel
theorem dX12_isRest_38 : decode cX12_isRest 38 = .ok (.iconst 1, 1) := by decide +kernel
theorem dX12_isRest_39 : decode cX12_isRest 39 = .ok (.invokestatic 360, 3) := by decide +kernel
theorem dX12_isRest_42 : decode cX12_isRest 42 = .ok (.iload_n 0, 1) := by decide +kernel
theorem dX12_isRest_43 : decode cX12_isRest 43 = .ok (.iload_n 1, 1) := by decide +kernel
theorem dX12_isRest_44 : decode cX12_isRest 44 = .ok (.iload_n 2, 1) := by decide +kernel
theorem dX12_isRest_45 : decode cX12_isRest 45 = .ok (.iconst 1, 1) := by decide +kernel
theorem dX12_isRest_46 : decode cX12_isRest 46 = .ok (.invokestatic 360, 3) := by decide +kernel
theorem dX12_isRest_49 : decode cX12_isRest 49 = .ok (.if_icmp .gt 7, 3) := by decide +kernel
theorem dX12_isRest_52 : decode cX12_isRest 52 = .ok (.iconst 1, 1) := by decide +kernel
theorem dX12_isRest_53 : decode cX12_isRest 53 = .ok (.goto 4, 3) := by decide +kernel
theorem dX12_isRest_56 : decode cX12_isRest 56 = .ok (.iconst 0, 1) := by decide +kernel
theorem dX12_isRest_57 : decode cX12_isRest 57 = .ok (.istore_n 3, 1) := by decide +kernel
theorem dX12_isRest_58 : decode cX12_isRest 58 = .ok (.iinc 4 1, 3) := by decide +kernel
theorem dX12_isRest_61 : decode cX12_isRest 61 = .ok (.goto (-56), 3) := by decide +kernel
theorem dX12_isRest_64 : decode cX12_isRest 64 = .ok (.iload_n 3, 1) := by decide +kernel
theorem dX12_isRest_65 : decode cX12_isRest 65 = .ok (.ireturn, 1) := by decide +kernel
theorem dX12_seekRests_0 : decode cX12_seekRests 0 = .ok (.iconst 0, 1) := by decide +kernel
theorem dX12_seekRests_1 : decode cX12_seekRests 1 = .ok (.istore_n 2, 1) := by decide +kernel
theorem dX12_seekRests_2 : decode cX12_seekRests 2 = .ok (.aload_n 0, 1) := by decide +kernel
theorem dX12_seekRests_3 : decode cX12_seekRests 3 = .ok (.bipush (-2), 2) := by decide +kernel
theorem dX12_seekRests_5 : decode cX12_seekRests 5 = .ok (.putfield 364, 3) := by decide +kernel
theorem dX12_seekRests_8 : decode cX12_seekRests 8 = .ok (.iconst 0, 1) := by decide +kernel
theorem dX12_seekRests_9 : decode cX12_seekRests 9 = .ok (.istore_n 3, 1) := by decide +kernel
theorem dX12_seekRests_10 : decode cX12_seekRests 10 = .ok (.iload_n 3, 1) := by decide +kernel
theorem dX12_seekRests_11 : decode cX12_seekRests 11 = .ok (.bipush 9, 2) := by decide +kernel
theorem dX12_seekRests_13 : decode cX12_seekRests 13 = .ok (.if_icmp .gt 56, 3) := by decide +kernel
theorem dX12_seekRests_16 : decode cX12_seekRests 16 = .ok (.iconst 0, 1) := by decide +kernel
theorem dX12_seekRests_17 : decode cX12_seekRests 17 = .ok (.istore 4, 2) := by decide +kernel
theorem dX12_seekRests_19 : decode cX12_seekRests 19 = .ok (.iload 4, 2) := by decide +kernel
theorem dX12_seekRests_21 : decode cX12_seekRests 21 = .ok (.bipush 9, 2) := by decide +kernel
theorem dX12_seekRests_23 : decode cX12_seekRests 23 = .ok (.if_icmp .gt 40, 3) := by decide +kernel
theorem dX12_seekRests_26 : decode cX12_seekRests 26 = .ok (.iload_n 1, 1) := by decide +kernel
theorem dX12_seekRests_27 : decode cX12_seekRests 27 = .ok (.iload_n 3, 1) := by decide +kernel
theorem dX12_seekRests_28 : decode cX12_seekRests 28 = .ok (.iload 4, 2) := by decide +kernel
theorem dX12_seekRests_30 : decode cX12_seekRests 30 = .ok (.invokestatic 367, 3) := by decide +kernel
theorem dX12_seekRests_33 : decode cX12_seekRests 33 = .ok (.ifCond .ne 6, 3) := by decide +kernel
theorem dX12_seekRests_36 : decode cX12_seekRests 36 = .ok (.goto 21, 3) := by decide +kernel
theorem dX12_seekRests_39 : decode cX12_seekRests 39 = .ok (.iload_n 2, 1) := by decide +kernel
theorem dX12_seekRests_40 : decode cX12_seekRests 40 = .ok (.ifCond .ne 14, 3) := by decide +kernel
theorem dX12_seekRests_43 : decode cX12_seekRests 43 = .ok (.aload_n 0, 1) := by decide +kernel
theorem dX12_seekRests_44 : decode cX12_seekRests 44 = .ok (.bipush 10, 2) := by decide +kernel
theorem dX12_seekRests_46 : decode cX12_seekRests 46 = .ok (.iload_n 3, 1) := by decide +kernel
theorem dX12_seekRests_47 : decode cX12_seekRests 47 = .ok (.imul, 1) := by decide +kernel
theorem dX12_seekRests_48 : decode cX12_seekRests 48 = .ok (.iload 4, 2) := by decide +kernel
theorem dX12_seekRests_50 : decode cX12_seekRests 50 = .ok (.iadd, 1) := by decide +kernel
theorem dX12_seekRests_51 : decode cX12_seekRests 51 = .ok (.putfield 364, 3) := by decide +kernel
theorem dX12_seekRests_54 : decode cX12_seekRests 54 = .ok (.iinc 2 1, 3) := by decide +kernel
theorem dX12_seekRests_57 : decode cX12_seekRests 57 = .ok (.iinc 4 1, 3) := by decide +kernel
theorem dX12_seekRests_60 : decode cX12_seekRests 60 = .ok (.goto (-41), 3) := by decide +kernel
theorem dX12_seekRests_63 : decode cX12_seekRests 63 = .ok (.iinc 3 1, 3) := by decide +kernel
theorem dX12_seekRests_66 : decode cX12_seekRests 66 = .ok (.goto (-56), 3) := by decide +kernel
theorem dX12_seekRests_69 : decode cX12_seekRests 69 = .ok (.iload_n 2, 1) := by decide +kernel
theorem dX12_seekRests_70 : decode cX12_seekRests 70 = .ok (.ireturn, 1) := by decide +kernel
theorem dX12_worthWhy_0 : decode cX12_worthWhy 0 = .ok (.aload_n 0, 1) := by decide +kernel
theorem dX12_worthWhy_1 : decode cX12_worthWhy 1 = .ok (.getfield 181, 3) := by decide +kernel
theorem dX12_worthWhy_4 : decode cX12_worthWhy 4 = .ok (.ifCond .ne 7, 3) := by decide +kernel
theorem dX12_worthWhy_7 : decode cX12_worthWhy 7 = .ok (.iconst 1, 1) := by decide +kernel
theorem dX12_worthWhy_8 : decode cX12_worthWhy 8 = .ok (.goto 18, 3) := by decide +kernel
theorem dX12_worthWhy_11 : decode cX12_worthWhy 11 = .ok (.iload_n 1, 1) := by decide +kernel
theorem dX12_worthWhy_12 : decode cX12_worthWhy 12 = .ok (.iconst 0, 1) := by decide +kernel
theorem dX12_worthWhy_13 : decode cX12_worthWhy 13 = .ok (.bipush 99, 2) := by decide +kernel
theorem dX12_worthWhy_15 : decode cX12_worthWhy 15 = .ok (.invokestatic 150, 3) := by decide +kernel
theorem dX12_worthWhy_18 : decode cX12_worthWhy 18 = .ok (.ifCond .eq 7, 3) := by decide +kernel
theorem dX12_worthWhy_21 : decode cX12_worthWhy 21 = .ok (.iconst 0, 1) := by decide +kernel
theorem dX12_worthWhy_22 : decode cX12_worthWhy 22 = .ok (.goto 4, 3) := by decide +kernel
theorem dX12_worthWhy_25 : decode cX12_worthWhy 25 = .ok (.iconst 2, 1) := by decide +kernel
theorem dX12_worthWhy_26 : decode cX12_worthWhy 26 = .ok (.ireturn, 1) := by decide +kernel
theorem dX12_rests_0 : decode cX12_rests 0 = .ok (.aload_n 0, 1) := by decide +kernel
theorem dX12_rests_1 : decode cX12_rests 1 = .ok (.invokevirtual 168, 3) := by decide +kernel
theorem dX12_rests_4 : decode cX12_rests 4 = .ok (.aload_n 0, 1) := by decide +kernel
theorem dX12_rests_5 : decode cX12_rests 5 = .ok (.iload_n 1, 1) := by decide +kernel
theorem dX12_rests_6 : decode cX12_rests 6 = .ok (.invokevirtual 370, 3) := by decide +kernel
theorem dX12_rests_9 : decode cX12_rests 9 = .ok (.istore_n 2, 1) := by decide +kernel
theorem dX12_rests_10 : decode cX12_rests 10 = .ok (.iload_n 2, 1) := by decide +kernel
theorem dX12_rests_11 : decode cX12_rests 11 = .ok (.ifCond .eq 11, 3) := by decide +kernel
theorem dX12_rests_14 : decode cX12_rests 14 = .ok (.aload_n 0, 1) := by decide +kernel
theorem dX12_rests_15 : decode cX12_rests 15 = .ok (.iload_n 2, 1) := by decide +kernel
theorem dX12_rests_16 : decode cX12_rests 16 = .ok (.invokevirtual 171, 3) := by decide +kernel
theorem dX12_rests_19 : decode cX12_rests 19 = .ok (.goto 8, 3) := by decide +kernel
theorem dX12_rests_22 : decode cX12_rests 22 = .ok (.aload_n 0, 1) := by decide +kernel
theorem dX12_rests_23 : decode cX12_rests 23 = .ok (.iload_n 1, 1) := by decide +kernel
theorem dX12_rests_24 : decode cX12_rests 24 = .ok (.invokevirtual 373, 3) := by decide +kernel
theorem dX12_rests_27 : decode cX12_rests 27 = .ok (.ireturn, 1) := by decide +kernel
theorem dX12_rest_0 : decode cX12_rest 0 = .ok (.aload_n 0, 1) := by decide +kernel
theorem dX12_rest_1 : decode cX12_rest 1 = .ok (.invokevirtual 168, 3) := by decide +kernel
theorem dX12_rest_4 : decode cX12_rest 4 = .ok (.aload_n 0, 1) := by decide +kernel
theorem dX12_rest_5 : decode cX12_rest 5 = .ok (.iload_n 1, 1) := by decide +kernel
theorem dX12_rest_6 : decode cX12_rest 6 = .ok (.invokevirtual 370, 3) := by decide +kernel
theorem dX12_rest_9 : decode cX12_rest 9 = .ok (.istore_n 2, 1) := by decide +kernel
theorem dX12_rest_10 : decode cX12_rest 10 = .ok (.iload_n 2, 1) := by decide +kernel
theorem dX12_rest_11 : decode cX12_rest 11 = .ok (.ifCond .eq 9, 3) := by decide +kernel
theorem dX12_rest_14 : decode cX12_rest 14 = .ok (.aload_n 0, 1) := by decide +kernel
theorem dX12_rest_15 : decode cX12_rest 15 = .ok (.iload_n 2, 1) := by decide +kernel
theorem dX12_rest_16 : decode cX12_rest 16 = .ok (.invokevirtual 171, 3) := by decide +kernel
theorem dX12_rest_19 : decode cX12_rest 19 = .ok (.ireturn, 1) := by decide +kernel
theorem dX12_rest_20 : decode cX12_rest 20 = .ok (.aload_n 0, 1) := by decide +kernel
theorem dX12_rest_21 : decode cX12_rest 21 = .ok (.iload_n 1, 1) := by decide +kernel
theorem dX12_rest_22 : decode cX12_rest 22 = .ok (.invokevirtual 373, 3) := by decide +kernel
theorem dX12_rest_25 : decode cX12_rest 25 = .ok (.pop, 1) := by decide +kernel
theorem dX12_rest_26 : decode cX12_rest 26 = .ok (.aload_n 0, 1) := by decide +kernel
theorem dX12_rest_27 : decode cX12_rest 27 = .ok (.getfield 364, 3) := by decide +kernel
theorem dX12_rest_30 : decode cX12_rest 30 = .ok (.ireturn, 1) := by decide +kernel
theorem dX12_weight_0 : decode cX12_weight 0 = .ok (.iload_n 2, 1) := by decide +kernel
theorem dX12_weight_1 : decode cX12_weight 1 = .ok (.aload_n 0, 1) := by decide +kernel
theorem dX12_weight_2 : decode cX12_weight 2 = .ok (.getfield 20, 3) := by decide +kernel
theorem dX12_weight_5 : decode cX12_weight 5 = .ok (.iconst 0, 1) := by decide +kernel
theorem dX12_weight_6 : decode cX12_weight 6 = .ok (.iaload, 1) := by decide +kernel
theorem dX12_weight_7 : decode cX12_weight 7 = .ok (.imul, 1) := by decide +kernel
theorem dX12_weight_8 : decode cX12_weight 8 = .ok (.aload_n 0, 1) := by decide +kernel
theorem dX12_weight_9 : decode cX12_weight 9 = .ok (.getfield 20, 3) := by decide +kernel
theorem dX12_weight_12 : decode cX12_weight 12 = .ok (.bipush 87, 2) := by decide +kernel
theorem dX12_weight_14 : decode cX12_weight 14 = .ok (.iconst 2, 1) := by decide +kernel
theorem dX12_weight_15 : decode cX12_weight 15 = .ok (.iload_n 1, 1) := by decide +kernel
theorem dX12_weight_16 : decode cX12_weight 16 = .ok (.imul, 1) := by decide +kernel
theorem dX12_weight_17 : decode cX12_weight 17 = .ok (.iadd, 1) := by decide +kernel
theorem dX12_weight_18 : decode cX12_weight 18 = .ok (.iaload, 1) := by decide +kernel
theorem dX12_weight_19 : decode cX12_weight 19 = .ok (.isub, 1) := by decide +kernel
theorem dX12_weight_20 : decode cX12_weight 20 = .ok (.istore_n 3, 1) := by decide +kernel
theorem dX12_weight_21 : decode cX12_weight 21 = .ok (.iload_n 3, 1) := by decide +kernel
theorem dX12_weight_22 : decode cX12_weight 22 = .ok (.ifCond .le 21, 3) := by decide +kernel
theorem dX12_weight_25 : decode cX12_weight 25 = .ok (.iload_n 3, 1) := by decide +kernel
theorem dX12_weight_26 : decode cX12_weight 26 = .ok (.aload_n 0, 1) := by decide +kernel
theorem dX12_weight_27 : decode cX12_weight 27 = .ok (.getfield 20, 3) := by decide +kernel
theorem dX12_weight_30 : decode cX12_weight 30 = .ok (.bipush 87, 2) := by decide +kernel
theorem dX12_weight_32 : decode cX12_weight 32 = .ok (.iconst 2, 1) := by decide +kernel
theorem dX12_weight_33 : decode cX12_weight 33 = .ok (.iload_n 1, 1) := by decide +kernel
theorem dX12_weight_34 : decode cX12_weight 34 = .ok (.imul, 1) := by decide +kernel
theorem dX12_weight_35 : decode cX12_weight 35 = .ok (.iadd, 1) := by decide +kernel
theorem dX12_weight_36 : decode cX12_weight 36 = .ok (.iconst 1, 1) := by decide +kernel
theorem dX12_weight_37 : decode cX12_weight 37 = .ok (.iadd, 1) := by decide +kernel
theorem dX12_weight_38 : decode cX12_weight 38 = .ok (.iaload, 1) := by decide +kernel
theorem dX12_weight_39 : decode cX12_weight 39 = .ok (.imul, 1) := by decide +kernel
theorem dX12_weight_40 : decode cX12_weight 40 = .ok (.goto 4, 3) := by decide +kernel
theorem dX12_weight_43 : decode cX12_weight 43 = .ok (.iconst 0, 1) := by decide +kernel
theorem dX12_weight_44 : decode cX12_weight 44 = .ok (.ireturn, 1) := by decide +kernel
theorem dX12_layParts_0 : decode cX12_layParts 0 = .ok (.iconst 0, 1) := by decide +kernel
theorem dX12_layParts_1 : decode cX12_layParts 1 = .ok (.istore_n 3, 1) := by decide +kernel
theorem dX12_layParts_2 : decode cX12_layParts 2 = .ok (.iconst 0, 1) := by decide +kernel
theorem dX12_layParts_3 : decode cX12_layParts 3 = .ok (.istore 4, 2) := by decide +kernel
theorem dX12_layParts_5 : decode cX12_layParts 5 = .ok (.iload 4, 2) := by decide +kernel
theorem dX12_layParts_7 : decode cX12_layParts 7 = .ok (.iconst 5, 1) := by decide +kernel
theorem dX12_layParts_8 : decode cX12_layParts 8 = .ok (.if_icmp .ge 17, 3) := by decide +kernel
theorem dX12_layParts_11 : decode cX12_layParts 11 = .ok (.aload_n 0, 1) := by decide +kernel
theorem dX12_layParts_12 : decode cX12_layParts 12 = .ok (.getfield 47, 3) := by decide +kernel
theorem dX12_layParts_15 : decode cX12_layParts 15 = .ok (.iload 4, 2) := by decide +kernel
theorem dX12_layParts_17 : decode cX12_layParts 17 = .ok (.iconst 0, 1) := by decide +kernel
theorem dX12_layParts_18 : decode cX12_layParts 18 = .ok (.iastore, 1) := by decide +kernel
theorem dX12_layParts_19 : decode cX12_layParts 19 = .ok (.iinc 4 1, 3) := by decide +kernel
theorem dX12_layParts_22 : decode cX12_layParts 22 = .ok (.goto (-17), 3) := by decide +kernel
theorem dX12_layParts_25 : decode cX12_layParts 25 = .ok (.iconst 0, 1) := by decide +kernel
theorem dX12_layParts_26 : decode cX12_layParts 26 = .ok (.istore 4, 2) := by decide +kernel
theorem dX12_layParts_28 : decode cX12_layParts 28 = .ok (.iload 4, 2) := by decide +kernel
theorem dX12_layParts_30 : decode cX12_layParts 30 = .ok (.aload_n 0, 1) := by decide +kernel
theorem dX12_layParts_31 : decode cX12_layParts 31 = .ok (.getfield 20, 3) := by decide +kernel
theorem dX12_layParts_34 : decode cX12_layParts 34 = .ok (.bipush 7, 2) := by decide +kernel
theorem dX12_layParts_36 : decode cX12_layParts 36 = .ok (.iaload, 1) := by decide +kernel
theorem dX12_layParts_37 : decode cX12_layParts 37 = .ok (.if_icmp .ge 19, 3) := by decide +kernel
theorem dX12_layParts_40 : decode cX12_layParts 40 = .ok (.iload_n 3, 1) := by decide +kernel
theorem dX12_layParts_41 : decode cX12_layParts 41 = .ok (.aload_n 0, 1) := by decide +kernel
theorem dX12_layParts_42 : decode cX12_layParts 42 = .ok (.iload 4, 2) := by decide +kernel
theorem dX12_layParts_44 : decode cX12_layParts 44 = .ok (.iload_n 2, 1) := by decide +kernel
theorem dX12_layParts_45 : decode cX12_layParts 45 = .ok (.invokevirtual 376, 3) := by decide +kernel
theorem dX12_layParts_48 : decode cX12_layParts 48 = .ok (.iadd, 1) := by decide +kernel
theorem dX12_layParts_49 : decode cX12_layParts 49 = .ok (.istore_n 3, 1) := by decide +kernel
theorem dX12_layParts_50 : decode cX12_layParts 50 = .ok (.iinc 4 1, 3) := by decide +kernel
theorem dX12_layParts_53 : decode cX12_layParts 53 = .ok (.goto (-25), 3) := by decide +kernel
theorem dX12_layParts_56 : decode cX12_layParts 56 = .ok (.iload_n 3, 1) := by decide +kernel
theorem dX12_layParts_57 : decode cX12_layParts 57 = .ok (.ifCond .ne 4, 3) := by decide +kernel
theorem dX12_layParts_60 : decode cX12_layParts 60 = .ok (.return_, 1) := by decide +kernel
theorem dX12_layParts_61 : decode cX12_layParts 61 = .ok (.iload_n 1, 1) := by decide +kernel
theorem dX12_layParts_62 : decode cX12_layParts 62 = .ok (.istore 4, 2) := by decide +kernel
theorem dX12_layParts_64 : decode cX12_layParts 64 = .ok (.iconst 0, 1) := by decide +kernel
theorem dX12_layParts_65 : decode cX12_layParts 65 = .ok (.istore 5, 2) := by decide +kernel
theorem dX12_layParts_67 : decode cX12_layParts 67 = .ok (.iload 5, 2) := by decide +kernel
theorem dX12_layParts_69 : decode cX12_layParts 69 = .ok (.aload_n 0, 1) := by decide +kernel
theorem dX12_layParts_70 : decode cX12_layParts 70 = .ok (.getfield 20, 3) := by decide +kernel
theorem dX12_layParts_73 : decode cX12_layParts 73 = .ok (.bipush 7, 2) := by decide +kernel
theorem dX12_layParts_75 : decode cX12_layParts 75 = .ok (.iaload, 1) := by decide +kernel
theorem dX12_layParts_76 : decode cX12_layParts 76 = .ok (.if_icmp .ge 39, 3) := by decide +kernel
theorem dX12_layParts_79 : decode cX12_layParts 79 = .ok (.aload_n 0, 1) := by decide +kernel
theorem dX12_layParts_80 : decode cX12_layParts 80 = .ok (.getfield 47, 3) := by decide +kernel
theorem dX12_layParts_83 : decode cX12_layParts 83 = .ok (.iload 5, 2) := by decide +kernel
theorem dX12_layParts_85 : decode cX12_layParts 85 = .ok (.iload_n 1, 1) := by decide +kernel
theorem dX12_layParts_86 : decode cX12_layParts 86 = .ok (.aload_n 0, 1) := by decide +kernel
theorem dX12_layParts_87 : decode cX12_layParts 87 = .ok (.iload 5, 2) := by decide +kernel
theorem dX12_layParts_89 : decode cX12_layParts 89 = .ok (.iload_n 2, 1) := by decide +kernel
theorem dX12_layParts_90 : decode cX12_layParts 90 = .ok (.invokevirtual 376, 3) := by decide +kernel
theorem dX12_layParts_93 : decode cX12_layParts 93 = .ok (.imul, 1) := by decide +kernel
theorem dX12_layParts_94 : decode cX12_layParts 94 = .ok (.iload_n 3, 1) := by decide +kernel
theorem dX12_layParts_95 : decode cX12_layParts 95 = .ok (.idiv, 1) := by decide +kernel
theorem dX12_layParts_96 : decode cX12_layParts 96 = .ok (.iastore, 1) := by decide +kernel
theorem dX12_layParts_97 : decode cX12_layParts 97 = .ok (.iload 4, 2) := by decide +kernel
theorem dX12_layParts_99 : decode cX12_layParts 99 = .ok (.aload_n 0, 1) := by decide +kernel
theorem dX12_layParts_100 : decode cX12_layParts 100 = .ok (.getfield 47, 3) := by decide +kernel
theorem dX12_layParts_103 : decode cX12_layParts 103 = .ok (.iload 5, 2) := by decide +kernel
theorem dX12_layParts_105 : decode cX12_layParts 105 = .ok (.iaload, 1) := by decide +kernel
theorem dX12_layParts_106 : decode cX12_layParts 106 = .ok (.isub, 1) := by decide +kernel
