theorem dX12_layParts_107 : decode cX12_layParts 107 = .ok (.istore 4, 2) := by decide +kernel
theorem dX12_layParts_109 : decode cX12_layParts 109 = .ok (.iinc 5 1, 3) := by decide +kernel
theorem dX12_layParts_112 : decode cX12_layParts 112 = .ok (.goto (-45), 3) := by decide +kernel
theorem dX12_layParts_115 : decode cX12_layParts 115 = .ok (.iconst 0, 1) := by decide +kernel
theorem dX12_layParts_116 : decode cX12_layParts 116 = .ok (.istore 5, 2) := by decide +kernel
theorem dX12_layParts_118 : decode cX12_layParts 118 = .ok (.iload 4, 2) := by decide +kernel
theorem dX12_layParts_120 : decode cX12_layParts 120 = .ok (.ifCond .le 97, 3) := by decide +kernel
theorem dX12_layParts_123 : decode cX12_layParts 123 = .ok (.iconst (-1), 1) := by decide +kernel
theorem dX12_layParts_124 : decode cX12_layParts 124 = .ok (.istore 6, 2) := by decide +kernel
theorem dX12_layParts_126 : decode cX12_layParts 126 = .ok (.iconst 0, 1) := by decide +kernel
theorem dX12_layParts_127 : decode cX12_layParts 127 = .ok (.istore 7, 2) := by decide +kernel
theorem dX12_layParts_129 : decode cX12_layParts 129 = .ok (.iload 7, 2) := by decide +kernel
theorem dX12_layParts_131 : decode cX12_layParts 131 = .ok (.aload_n 0, 1) := by decide +kernel
theorem dX12_layParts_132 : decode cX12_layParts 132 = .ok (.getfield 20, 3) := by decide +kernel
theorem dX12_layParts_135 : decode cX12_layParts 135 = .ok (.bipush 7, 2) := by decide +kernel
theorem dX12_layParts_137 : decode cX12_layParts 137 = .ok (.iaload, 1) := by decide +kernel
theorem dX12_layParts_138 : decode cX12_layParts 138 = .ok (.if_icmp .ge 53, 3) := by decide +kernel
theorem dX12_layParts_141 : decode cX12_layParts 141 = .ok (.iload 5, 2) := by decide +kernel
theorem dX12_layParts_143 : decode cX12_layParts 143 = .ok (.iload 7, 2) := by decide +kernel
theorem dX12_layParts_145 : decode cX12_layParts 145 = .ok (.invokestatic 237, 3) := by decide +kernel
theorem dX12_layParts_148 : decode cX12_layParts 148 = .ok (.ifCond .ne 37, 3) := by decide +kernel
theorem dX12_layParts_151 : decode cX12_layParts 151 = .ok (.iload 6, 2) := by decide +kernel
theorem dX12_layParts_153 : decode cX12_layParts 153 = .ok (.ifCond .lt 28, 3) := by decide +kernel
theorem dX12_layParts_156 : decode cX12_layParts 156 = .ok (.iload_n 1, 1) := by decide +kernel
theorem dX12_layParts_157 : decode cX12_layParts 157 = .ok (.aload_n 0, 1) := by decide +kernel
theorem dX12_layParts_158 : decode cX12_layParts 158 = .ok (.iload 7, 2) := by decide +kernel
theorem dX12_layParts_160 : decode cX12_layParts 160 = .ok (.iload_n 2, 1) := by decide +kernel
theorem dX12_layParts_161 : decode cX12_layParts 161 = .ok (.invokevirtual 376, 3) := by decide +kernel
theorem dX12_layParts_164 : decode cX12_layParts 164 = .ok (.imul, 1) := by decide +kernel
theorem dX12_layParts_165 : decode cX12_layParts 165 = .ok (.iload_n 3, 1) := by decide +kernel
theorem dX12_layParts_166 : decode cX12_layParts 166 = .ok (.irem, 1) := by decide +kernel
theorem dX12_layParts_167 : decode cX12_layParts 167 = .ok (.iload_n 1, 1) := by decide +kernel
theorem dX12_layParts_168 : decode cX12_layParts 168 = .ok (.aload_n 0, 1) := by decide +kernel
theorem dX12_layParts_169 : decode cX12_layParts 169 = .ok (.iload 6, 2) := by decide +kernel
theorem dX12_layParts_171 : decode cX12_layParts 171 = .ok (.iload_n 2, 1) := by decide +kernel
theorem dX12_layParts_172 : decode cX12_layParts 172 = .ok (.invokevirtual 376, 3) := by decide +kernel
theorem dX12_layParts_175 : decode cX12_layParts 175 = .ok (.imul, 1) := by decide +kernel
theorem dX12_layParts_176 : decode cX12_layParts 176 = .ok (.iload_n 3, 1) := by decide +kernel
theorem dX12_layParts_177 : decode cX12_layParts 177 = .ok (.irem, 1) := by decide +kernel
theorem dX12_layParts_178 : decode cX12_layParts 178 = .ok (.if_icmp .le 7, 3) := by decide +kernel
theorem dX12_layParts_181 : decode cX12_layParts 181 = .ok (.iload 7, 2) := by decide +kernel
theorem dX12_layParts_183 : decode cX12_layParts 183 = .ok (.istore 6, 2) := by decide +kernel
theorem dX12_layParts_185 : decode cX12_layParts 185 = .ok (.iinc 7 1, 3) := by decide +kernel
theorem dX12_layParts_188 : decode cX12_layParts 188 = .ok (.goto (-59), 3) := by decide +kernel
theorem dX12_layParts_191 : decode cX12_layParts 191 = .ok (.iload 5, 2) := by decide +kernel
theorem dX12_layParts_193 : decode cX12_layParts 193 = .ok (.iconst 1, 1) := by decide +kernel
theorem dX12_layParts_194 : decode cX12_layParts 194 = .ok (.iload 6, 2) := by decide +kernel
theorem dX12_layParts_196 : decode cX12_layParts 196 = .ok (.ishl, 1) := by decide +kernel
theorem dX12_layParts_197 : decode cX12_layParts 197 = .ok (.ior, 1) := by decide +kernel
theorem dX12_layParts_198 : decode cX12_layParts 198 = .ok (.istore 5, 2) := by decide +kernel
theorem dX12_layParts_200 : decode cX12_layParts 200 = .ok (.aload_n 0, 1) := by decide +kernel
theorem dX12_layParts_201 : decode cX12_layParts 201 = .ok (.getfield 47, 3) := by decide +kernel
theorem dX12_layParts_204 : decode cX12_layParts 204 = .ok (.iload 6, 2) := by decide +kernel
theorem dX12_layParts_206 : decode cX12_layParts 206 = .ok (.dup2, 1) := by decide +kernel
theorem dX12_layParts_207 : decode cX12_layParts 207 = .ok (.iaload, 1) := by decide +kernel
theorem dX12_layParts_208 : decode cX12_layParts 208 = .ok (.iconst 1, 1) := by decide +kernel
theorem dX12_layParts_209 : decode cX12_layParts 209 = .ok (.iadd, 1) := by decide +kernel
theorem dX12_layParts_210 : decode cX12_layParts 210 = .ok (.iastore, 1) := by decide +kernel
theorem dX12_layParts_211 : decode cX12_layParts 211 = .ok (.iinc 4 (-1), 3) := by decide +kernel
theorem dX12_layParts_214 : decode cX12_layParts 214 = .ok (.goto (-96), 3) := by decide +kernel
theorem dX12_layParts_217 : decode cX12_layParts 217 = .ok (.return_, 1) := by decide +kernel
theorem dX12_partWhy_0 : decode cX12_partWhy 0 = .ok (.iload_n 1, 1) := by decide +kernel
theorem dX12_partWhy_1 : decode cX12_partWhy 1 = .ok (.ifCond .ne 7, 3) := by decide +kernel
theorem dX12_partWhy_4 : decode cX12_partWhy 4 = .ok (.iconst 1, 1) := by decide +kernel
theorem dX12_partWhy_5 : decode cX12_partWhy 5 = .ok (.goto 26, 3) := by decide +kernel
theorem dX12_partWhy_8 : decode cX12_partWhy 8 = .ok (.iload_n 2, 1) := by decide +kernel
theorem dX12_partWhy_9 : decode cX12_partWhy 9 = .ok (.iconst 0, 1) := by decide +kernel
theorem dX12_partWhy_10 : decode cX12_partWhy 10 = .ok (.sipush 999, 3) := by decide +kernel
theorem dX12_partWhy_13 : decode cX12_partWhy 13 = .ok (.invokestatic 150, 3) := by decide +kernel
theorem dX12_partWhy_16 : decode cX12_partWhy 16 = .ok (.ifCond .eq 14, 3) := by decide +kernel
theorem dX12_partWhy_19 : decode cX12_partWhy 19 = .ok (.iload_n 3, 1) := by decide +kernel
theorem dX12_partWhy_20 : decode cX12_partWhy 20 = .ok (.invokestatic 284, 3) := by decide +kernel
theorem dX12_partWhy_23 : decode cX12_partWhy 23 = .ok (.ifCond .eq 7, 3) := by decide +kernel
theorem dX12_partWhy_26 : decode cX12_partWhy 26 = .ok (.iconst 0, 1) := by decide +kernel
theorem dX12_partWhy_27 : decode cX12_partWhy 27 = .ok (.goto 4, 3) := by decide +kernel
theorem dX12_partWhy_30 : decode cX12_partWhy 30 = .ok (.iconst 2, 1) := by decide +kernel
theorem dX12_partWhy_31 : decode cX12_partWhy 31 = .ok (.ireturn, 1) := by decide +kernel
theorem dX12_part_0 : decode cX12_part 0 = .ok (.aload_n 0, 1) := by decide +kernel
theorem dX12_part_1 : decode cX12_part 1 = .ok (.invokevirtual 168, 3) := by decide +kernel
theorem dX12_part_4 : decode cX12_part 4 = .ok (.aload_n 0, 1) := by decide +kernel
theorem dX12_part_5 : decode cX12_part 5 = .ok (.aload_n 0, 1) := by decide +kernel
theorem dX12_part_6 : decode cX12_part 6 = .ok (.getfield 181, 3) := by decide +kernel
theorem dX12_part_9 : decode cX12_part 9 = .ok (.ifCond .eq 24, 3) := by decide +kernel
theorem dX12_part_12 : decode cX12_part 12 = .ok (.iload_n 1, 1) := by decide +kernel
theorem dX12_part_13 : decode cX12_part 13 = .ok (.iconst 0, 1) := by decide +kernel
theorem dX12_part_14 : decode cX12_part 14 = .ok (.aload_n 0, 1) := by decide +kernel
theorem dX12_part_15 : decode cX12_part 15 = .ok (.getfield 20, 3) := by decide +kernel
theorem dX12_part_18 : decode cX12_part 18 = .ok (.bipush 7, 2) := by decide +kernel
theorem dX12_part_20 : decode cX12_part 20 = .ok (.iaload, 1) := by decide +kernel
theorem dX12_part_21 : decode cX12_part 21 = .ok (.iconst 1, 1) := by decide +kernel
theorem dX12_part_22 : decode cX12_part 22 = .ok (.isub, 1) := by decide +kernel
theorem dX12_part_23 : decode cX12_part 23 = .ok (.invokestatic 150, 3) := by decide +kernel
theorem dX12_part_26 : decode cX12_part 26 = .ok (.ifCond .eq 7, 3) := by decide +kernel
theorem dX12_part_29 : decode cX12_part 29 = .ok (.iconst 1, 1) := by decide +kernel
theorem dX12_part_30 : decode cX12_part 30 = .ok (.goto 4, 3) := by decide +kernel
theorem dX12_part_33 : decode cX12_part 33 = .ok (.iconst 0, 1) := by decide +kernel
theorem dX12_part_34 : decode cX12_part 34 = .ok (.iload_n 2, 1) := by decide +kernel
theorem dX12_part_35 : decode cX12_part 35 = .ok (.iload_n 3, 1) := by decide +kernel
theorem dX12_part_36 : decode cX12_part 36 = .ok (.invokevirtual 379, 3) := by decide +kernel
theorem dX12_part_39 : decode cX12_part 39 = .ok (.istore 4, 2) := by decide +kernel
theorem dX12_part_41 : decode cX12_part 41 = .ok (.iload 4, 2) := by decide +kernel
theorem dX12_part_43 : decode cX12_part 43 = .ok (.ifCond .eq 10, 3) := by decide +kernel
theorem dX12_part_46 : decode cX12_part 46 = .ok (.aload_n 0, 1) := by decide +kernel
theorem dX12_part_47 : decode cX12_part 47 = .ok (.iload 4, 2) := by decide +kernel
theorem dX12_part_49 : decode cX12_part 49 = .ok (.invokevirtual 171, 3) := by decide +kernel
theorem dX12_part_52 : decode cX12_part 52 = .ok (.ireturn, 1) := by decide +kernel
theorem dX12_part_53 : decode cX12_part 53 = .ok (.aload_n 0, 1) := by decide +kernel
theorem dX12_part_54 : decode cX12_part 54 = .ok (.iload_n 2, 1) := by decide +kernel
theorem dX12_part_55 : decode cX12_part 55 = .ok (.iload_n 3, 1) := by decide +kernel
theorem dX12_part_56 : decode cX12_part 56 = .ok (.invokevirtual 383, 3) := by decide +kernel
theorem dX12_part_59 : decode cX12_part 59 = .ok (.aload_n 0, 1) := by decide +kernel
theorem dX12_part_60 : decode cX12_part 60 = .ok (.getfield 47, 3) := by decide +kernel
theorem dX12_part_63 : decode cX12_part 63 = .ok (.iload_n 1, 1) := by decide +kernel
theorem dX12_part_64 : decode cX12_part 64 = .ok (.iaload, 1) := by decide +kernel
theorem dX12_part_65 : decode cX12_part 65 = .ok (.ireturn, 1) := by decide +kernel
theorem dX12_service_0 : decode cX12_service 0 = .ok (.aload_n 0, 1) := by decide +kernel
theorem dX12_service_1 : decode cX12_service 1 = .ok (.invokevirtual 168, 3) := by decide +kernel
theorem dX12_service_4 : decode cX12_service 4 = .ok (.aload_n 0, 1) := by decide +kernel
theorem dX12_service_5 : decode cX12_service 5 = .ok (.aload_n 0, 1) := by decide +kernel
theorem dX12_service_6 : decode cX12_service 6 = .ok (.getfield 181, 3) := by decide +kernel
theorem dX12_service_9 : decode cX12_service 9 = .ok (.ifCond .eq 24, 3) := by decide +kernel
theorem dX12_service_12 : decode cX12_service 12 = .ok (.iload_n 1, 1) := by decide +kernel
theorem dX12_service_13 : decode cX12_service 13 = .ok (.iconst 0, 1) := by decide +kernel
theorem dX12_service_14 : decode cX12_service 14 = .ok (.aload_n 0, 1) := by decide +kernel
theorem dX12_service_15 : decode cX12_service 15 = .ok (.getfield 20, 3) := by decide +kernel
theorem dX12_service_18 : decode cX12_service 18 = .ok (.bipush 7, 2) := by decide +kernel
theorem dX12_service_20 : decode cX12_service 20 = .ok (.iaload, 1) := by decide +kernel
theorem dX12_service_21 : decode cX12_service 21 = .ok (.iconst 1, 1) := by decide +kernel
theorem dX12_service_22 : decode cX12_service 22 = .ok (.isub, 1) := by decide +kernel
theorem dX12_service_23 : decode cX12_service 23 = .ok (.invokestatic 150, 3) := by decide +kernel
theorem dX12_service_26 : decode cX12_service 26 = .ok (.ifCond .eq 7, 3) := by decide +kernel
theorem dX12_service_29 : decode cX12_service 29 = .ok (.iconst 1, 1) := by decide +kernel
theorem dX12_service_30 : decode cX12_service 30 = .ok (.goto 4, 3) := by decide +kernel
theorem dX12_service_33 : decode cX12_service 33 = .ok (.iconst 0, 1) := by decide +kernel
theorem dX12_service_34 : decode cX12_service 34 = .ok (.iload_n 2, 1) := by decide +kernel
theorem dX12_service_35 : decode cX12_service 35 = .ok (.invokevirtual 287, 3) := by decide +kernel
theorem dX12_service_38 : decode cX12_service 38 = .ok (.istore_n 3, 1) := by decide +kernel
theorem dX12_service_39 : decode cX12_service 39 = .ok (.iload_n 3, 1) := by decide +kernel
theorem dX12_service_40 : decode cX12_service 40 = .ok (.ifCond .eq 11, 3) := by decide +kernel
theorem dX12_service_43 : decode cX12_service 43 = .ok (.aload_n 0, 1) := by decide +kernel
theorem dX12_service_44 : decode cX12_service 44 = .ok (.iload_n 3, 1) := by decide +kernel
theorem dX12_service_45 : decode cX12_service 45 = .ok (.invokevirtual 171, 3) := by decide +kernel
theorem dX12_service_48 : decode cX12_service 48 = .ok (.goto 9, 3) := by decide +kernel
theorem dX12_service_51 : decode cX12_service 51 = .ok (.aload_n 0, 1) := by decide +kernel
theorem dX12_service_52 : decode cX12_service 52 = .ok (.iload_n 1, 1) := by decide +kernel
theorem dX12_service_53 : decode cX12_service 53 = .ok (.iload_n 2, 1) := by decide +kernel
theorem dX12_service_54 : decode cX12_service 54 = .ok (.invokevirtual 376, 3) := by decide +kernel
theorem dX12_service_57 : decode cX12_service 57 = .ok (.ireturn, 1) := by decide +kernel
theorem dX12_bestHand_0 : decode cX12_bestHand 0 = .ok (.aload_n 0, 1) := by decide +kernel
theorem dX12_bestHand_1 : decode cX12_bestHand 1 = .ok (.invokevirtual 168, 3) := by decide +kernel
theorem dX12_bestHand_4 : decode cX12_bestHand 4 = .ok (.aload_n 0, 1) := by decide +kernel
theorem dX12_bestHand_5 : decode cX12_bestHand 5 = .ok (.aload_n 0, 1) := by decide +kernel
theorem dX12_bestHand_6 : decode cX12_bestHand 6 = .ok (.getfield 181, 3) := by decide +kernel
theorem dX12_bestHand_9 : decode cX12_bestHand 9 = .ok (.iload_n 1, 1) := by decide +kernel
theorem dX12_bestHand_10 : decode cX12_bestHand 10 = .ok (.iload_n 2, 1) := by decide +kernel
theorem dX12_bestHand_11 : decode cX12_bestHand 11 = .ok (.invokevirtual 379, 3) := by decide +kernel
theorem dX12_bestHand_14 : decode cX12_bestHand 14 = .ok (.istore_n 3, 1) := by decide +kernel
theorem dX12_bestHand_15 : decode cX12_bestHand 15 = .ok (.iload_n 3, 1) := by decide +kernel
theorem dX12_bestHand_16 : decode cX12_bestHand 16 = .ok (.ifCond .eq 9, 3) := by decide +kernel
theorem dX12_bestHand_19 : decode cX12_bestHand 19 = .ok (.aload_n 0, 1) := by decide +kernel
theorem dX12_bestHand_20 : decode cX12_bestHand 20 = .ok (.iload_n 3, 1) := by decide +kernel
theorem dX12_bestHand_21 : decode cX12_bestHand 21 = .ok (.invokevirtual 171, 3) := by decide +kernel
theorem dX12_bestHand_24 : decode cX12_bestHand 24 = .ok (.ireturn, 1) := by decide +kernel
theorem dX12_bestHand_25 : decode cX12_bestHand 25 = .ok (.aload_n 0, 1) := by decide +kernel
theorem dX12_bestHand_26 : decode cX12_bestHand 26 = .ok (.iload_n 1, 1) := by decide +kernel
theorem dX12_bestHand_27 : decode cX12_bestHand 27 = .ok (.iload_n 2, 1) := by decide +kernel
theorem dX12_bestHand_28 : decode cX12_bestHand 28 = .ok (.invokevirtual 383, 3) := by decide +kernel
theorem dX12_bestHand_31 : decode cX12_bestHand 31 = .ok (.bipush (-2), 2) := by decide +kernel
theorem dX12_bestHand_33 : decode cX12_bestHand 33 = .ok (.istore 4, 2) := by decide +kernel
theorem dX12_bestHand_35 : decode cX12_bestHand 35 = .ok (.iconst 0, 1) := by decide +kernel
theorem dX12_bestHand_36 : decode cX12_bestHand 36 = .ok (.istore 5, 2) := by decide +kernel
theorem dX12_bestHand_38 : decode cX12_bestHand 38 = .ok (.iload 5, 2) := by decide +kernel
theorem dX12_bestHand_40 : decode cX12_bestHand 40 = .ok (.aload_n 0, 1) := by decide +kernel
theorem dX12_bestHand_41 : decode cX12_bestHand 41 = .ok (.getfield 20, 3) := by decide +kernel
theorem dX12_bestHand_44 : decode cX12_bestHand 44 = .ok (.bipush 7, 2) := by decide +kernel
theorem dX12_bestHand_46 : decode cX12_bestHand 46 = .ok (.iaload, 1) := by decide +kernel
theorem dX12_bestHand_47 : decode cX12_bestHand 47 = .ok (.if_icmp .ge 39, 3) := by decide +kernel
theorem dX12_bestHand_50 : decode cX12_bestHand 50 = .ok (.aload_n 0, 1) := by decide +kernel
theorem dX12_bestHand_51 : decode cX12_bestHand 51 = .ok (.getfield 47, 3) := by decide +kernel
theorem dX12_bestHand_54 : decode cX12_bestHand 54 = .ok (.iload 5, 2) := by decide +kernel
theorem dX12_bestHand_56 : decode cX12_bestHand 56 = .ok (.iaload, 1) := by decide +kernel
theorem dX12_bestHand_57 : decode cX12_bestHand 57 = .ok (.iload 4, 2) := by decide +kernel
theorem dX12_bestHand_59 : decode cX12_bestHand 59 = .ok (.ifCond .ge 7, 3) := by decide +kernel
theorem dX12_bestHand_62 : decode cX12_bestHand 62 = .ok (.iconst 0, 1) := by decide +kernel
theorem dX12_bestHand_63 : decode cX12_bestHand 63 = .ok (.goto 10, 3) := by decide +kernel
theorem dX12_bestHand_66 : decode cX12_bestHand 66 = .ok (.aload_n 0, 1) := by decide +kernel
theorem dX12_bestHand_67 : decode cX12_bestHand 67 = .ok (.getfield 47, 3) := by decide +kernel
theorem dX12_bestHand_70 : decode cX12_bestHand 70 = .ok (.iload 4, 2) := by decide +kernel
theorem dX12_bestHand_72 : decode cX12_bestHand 72 = .ok (.iaload, 1) := by decide +kernel
theorem dX12_bestHand_73 : decode cX12_bestHand 73 = .ok (.if_icmp .le 7, 3) := by decide +kernel
theorem dX12_bestHand_76 : decode cX12_bestHand 76 = .ok (.iload 5, 2) := by decide +kernel
theorem dX12_bestHand_78 : decode cX12_bestHand 78 = .ok (.istore 4, 2) := by decide +kernel
theorem dX12_bestHand_80 : decode cX12_bestHand 80 = .ok (.iinc 5 1, 3) := by decide +kernel
theorem dX12_bestHand_83 : decode cX12_bestHand 83 = .ok (.goto (-45), 3) := by decide +kernel
theorem dX12_bestHand_86 : decode cX12_bestHand 86 = .ok (.iload 4, 2) := by decide +kernel
theorem dX12_bestHand_88 : decode cX12_bestHand 88 = .ok (.ireturn, 1) := by decide +kernel
theorem dX12_wasNear_0 : decode cX12_wasNear 0 = .ok (.aload_n 0, 1) := by decide +kernel
theorem dX12_wasNear_1 : decode cX12_wasNear 1 = .ok (.iload_n 2, 1) := by decide +kernel
theorem dX12_wasNear_2 : decode cX12_wasNear 2 = .ok (.aload_n 0, 1) := by decide +kernel
theorem dX12_wasNear_3 : decode cX12_wasNear 3 = .ok (.getfield 20, 3) := by decide +kernel
theorem dX12_wasNear_6 : decode cX12_wasNear 6 = .ok (.bipush 97, 2) := by decide +kernel
theorem dX12_wasNear_8 : decode cX12_wasNear 8 = .ok (.iconst 2, 1) := by decide +kernel
theorem dX12_wasNear_9 : decode cX12_wasNear 9 = .ok (.iload_n 1, 1) := by decide +kernel
theorem dX12_wasNear_10 : decode cX12_wasNear 10 = .ok (.imul, 1) := by decide +kernel
theorem dX12_wasNear_11 : decode cX12_wasNear 11 = .ok (.iadd, 1) := by decide +kernel
theorem dX12_wasNear_12 : decode cX12_wasNear 12 = .ok (.iaload, 1) := by decide +kernel
theorem dX12_wasNear_13 : decode cX12_wasNear 13 = .ok (.aload_n 0, 1) := by decide +kernel
theorem dX12_wasNear_14 : decode cX12_wasNear 14 = .ok (.getfield 20, 3) := by decide +kernel
theorem dX12_wasNear_17 : decode cX12_wasNear 17 = .ok (.iconst 0, 1) := by decide +kernel
theorem dX12_wasNear_18 : decode cX12_wasNear 18 = .ok (.iaload, 1) := by decide +kernel
theorem dX12_wasNear_19 : decode cX12_wasNear 19 = .ok (.invokevirtual 291, 3) := by decide +kernel
theorem dX12_wasNear_22 : decode cX12_wasNear 22 = .ok (.aload_n 0, 1) := by decide +kernel
theorem dX12_wasNear_23 : decode cX12_wasNear 23 = .ok (.getfield 20, 3) := by decide +kernel
theorem dX12_wasNear_26 : decode cX12_wasNear 26 = .ok (.bipush 97, 2) := by decide +kernel
theorem dX12_wasNear_28 : decode cX12_wasNear 28 = .ok (.iconst 2, 1) := by decide +kernel
theorem dX12_wasNear_29 : decode cX12_wasNear 29 = .ok (.iload_n 1, 1) := by decide +kernel
theorem dX12_wasNear_30 : decode cX12_wasNear 30 = .ok (.imul, 1) := by decide +kernel
theorem dX12_wasNear_31 : decode cX12_wasNear 31 = .ok (.iadd, 1) := by decide +kernel
theorem dX12_wasNear_32 : decode cX12_wasNear 32 = .ok (.iconst 1, 1) := by decide +kernel
theorem dX12_wasNear_33 : decode cX12_wasNear 33 = .ok (.iadd, 1) := by decide +kernel
theorem dX12_wasNear_34 : decode cX12_wasNear 34 = .ok (.iaload, 1) := by decide +kernel
theorem dX12_wasNear_35 : decode cX12_wasNear 35 = .ok (.if_icmp .ne 7, 3) := by decide +kernel
theorem dX12_wasNear_38 : decode cX12_wasNear 38 = .ok (.iconst 1, 1) := by decide +kernel
theorem dX12_wasNear_39 : decode cX12_wasNear 39 = .ok (.goto 4, 3) := by decide +kernel
theorem dX12_wasNear_42 : decode cX12_wasNear 42 = .ok (.iconst 0, 1) := by decide +kernel
theorem dX12_wasNear_43 : decode cX12_wasNear 43 = .ok (.ireturn, 1) := by decide +kernel
theorem dX12_tryNear_0 : decode cX12_tryNear 0 = .ok (.iload_n 1, 1) := by decide +kernel
theorem dX12_tryNear_1 : decode cX12_tryNear 1 = .ok (.aload_n 0, 1) := by decide +kernel
theorem dX12_tryNear_2 : decode cX12_tryNear 2 = .ok (.getfield 20, 3) := by decide +kernel
theorem dX12_tryNear_5 : decode cX12_tryNear 5 = .ok (.bipush 8, 2) := by decide +kernel
theorem dX12_tryNear_7 : decode cX12_tryNear 7 = .ok (.iaload, 1) := by decide +kernel
theorem dX12_tryNear_8 : decode cX12_tryNear 8 = .ok (.if_icmp .ne 68, 3) := by decide +kernel
theorem dX12_tryNear_11 : decode cX12_tryNear 11 = .ok (.aload_n 0, 1) := by decide +kernel
theorem dX12_tryNear_12 : decode cX12_tryNear 12 = .ok (.getfield 386, 3) := by decide +kernel
theorem dX12_tryNear_15 : decode cX12_tryNear 15 = .ok (.ifCond .ne 17, 3) := by decide +kernel
theorem dX12_tryNear_18 : decode cX12_tryNear 18 = .ok (.aload_n 0, 1) := by decide +kernel
theorem dX12_tryNear_19 : decode cX12_tryNear 19 = .ok (.getfield 50, 3) := by decide +kernel
theorem dX12_tryNear_22 : decode cX12_tryNear 22 = .ok (.iconst 0, 1) := by decide +kernel
theorem dX12_tryNear_23 : decode cX12_tryNear 23 = .ok (.aload_n 0, 1) := by decide +kernel
theorem dX12_tryNear_24 : decode cX12_tryNear 24 = .ok (.getfield 53, 3) := by decide +kernel
theorem dX12_tryNear_27 : decode cX12_tryNear 27 = .ok (.iconst 0, 1) := by decide +kernel
theorem dX12_tryNear_28 : decode cX12_tryNear 28 = .ok (.iload_n 1, 1) := by decide +kernel
theorem dX12_tryNear_29 : decode cX12_tryNear 29 = .ok (.invokestatic 177, 3) := by decide +kernel
theorem dX12_tryNear_32 : decode cX12_tryNear 32 = .ok (.aload_n 0, 1) := by decide +kernel
theorem dX12_tryNear_33 : decode cX12_tryNear 33 = .ok (.dup, 1) := by decide +kernel
theorem dX12_tryNear_34 : decode cX12_tryNear 34 = .ok (.getfield 386, 3) := by decide +kernel
theorem dX12_tryNear_37 : decode cX12_tryNear 37 = .ok (.iconst 1, 1) := by decide +kernel
theorem dX12_tryNear_38 : decode cX12_tryNear 38 = .ok (.iadd, 1) := by decide +kernel
theorem dX12_tryNear_39 : decode cX12_tryNear 39 = .ok (.putfield 386, 3) := by decide +kernel
theorem dX12_tryNear_42 : decode cX12_tryNear 42 = .ok (.iconst 0, 1) := by decide +kernel
theorem dX12_tryNear_43 : decode cX12_tryNear 43 = .ok (.istore_n 3, 1) := by decide +kernel
theorem dX12_tryNear_44 : decode cX12_tryNear 44 = .ok (.iload_n 3, 1) := by decide +kernel
theorem dX12_tryNear_45 : decode cX12_tryNear 45 = .ok (.iload_n 1, 1) := by decide +kernel
theorem dX12_tryNear_46 : decode cX12_tryNear 46 = .ok (.if_icmp .ge 29, 3) := by decide +kernel
theorem dX12_tryNear_49 : decode cX12_tryNear 49 = .ok (.aload_n 0, 1) := by decide +kernel
theorem dX12_tryNear_50 : decode cX12_tryNear 50 = .ok (.getfield 56, 3) := by decide +kernel
theorem dX12_tryNear_53 : decode cX12_tryNear 53 = .ok (.bipush 8, 2) := by decide +kernel
theorem dX12_tryNear_55 : decode cX12_tryNear 55 = .ok (.iload_n 3, 1) := by decide +kernel
theorem dX12_tryNear_56 : decode cX12_tryNear 56 = .ok (.imul, 1) := by decide +kernel
theorem dX12_tryNear_57 : decode cX12_tryNear 57 = .ok (.aload_n 0, 1) := by decide +kernel
theorem dX12_tryNear_58 : decode cX12_tryNear 58 = .ok (.getfield 50, 3) := by decide +kernel
theorem dX12_tryNear_61 : decode cX12_tryNear 61 = .ok (.iload_n 3, 1) := by decide +kernel
theorem dX12_tryNear_62 : decode cX12_tryNear 62 = .ok (.iaload, 1) := by decide +kernel
theorem dX12_tryNear_63 : decode cX12_tryNear 63 = .ok (.iadd, 1) := by decide +kernel
theorem dX12_tryNear_64 : decode cX12_tryNear 64 = .ok (.dup2, 1) := by decide +kernel
theorem dX12_tryNear_65 : decode cX12_tryNear 65 = .ok (.iaload, 1) := by decide +kernel
theorem dX12_tryNear_66 : decode cX12_tryNear 66 = .ok (.iconst 1, 1) := by decide +kernel
theorem dX12_tryNear_67 : decode cX12_tryNear 67 = .ok (.iadd, 1) := by decide +kernel
theorem dX12_tryNear_68 : decode cX12_tryNear 68 = .ok (.iastore, 1) := by decide +kernel
theorem dX12_tryNear_69 : decode cX12_tryNear 69 = .ok (.iinc 3 1, 3) := by decide +kernel
theorem dX12_tryNear_72 : decode cX12_tryNear 72 = .ok (.goto (-28), 3) := by decide +kernel
theorem dX12_tryNear_75 : decode cX12_tryNear 75 = .ok (.return_, 1) := by decide +kernel
theorem dX12_tryNear_76 : decode cX12_tryNear 76 = .ok (.iconst 0, 1) := by decide +kernel
theorem dX12_tryNear_77 : decode cX12_tryNear 77 = .ok (.istore_n 3, 1) := by decide +kernel
theorem dX12_tryNear_78 : decode cX12_tryNear 78 = .ok (.iload_n 3, 1) := by decide +kernel
theorem dX12_tryNear_79 : decode cX12_tryNear 79 = .ok (.aload_n 0, 1) := by decide +kernel
theorem dX12_tryNear_80 : decode cX12_tryNear 80 = .ok (.getfield 20, 3) := by decide +kernel
theorem dX12_tryNear_83 : decode cX12_tryNear 83 = .ok (.iconst 4, 1) := by decide +kernel
theorem dX12_tryNear_84 : decode cX12_tryNear 84 = .ok (.iaload, 1) := by decide +kernel
theorem dX12_tryNear_85 : decode cX12_tryNear 85 = .ok (.if_icmp .ge 48, 3) := by decide +kernel
theorem dX12_tryNear_88 : decode cX12_tryNear 88 = .ok (.iload_n 2, 1) := by decide +kernel
theorem dX12_tryNear_89 : decode cX12_tryNear 89 = .ok (.iload_n 3, 1) := by decide +kernel
theorem dX12_tryNear_90 : decode cX12_tryNear 90 = .ok (.invokestatic 237, 3) := by decide +kernel
theorem dX12_tryNear_93 : decode cX12_tryNear 93 = .ok (.ifCond .ne 34, 3) := by decide +kernel
theorem dX12_tryNear_96 : decode cX12_tryNear 96 = .ok (.aload_n 0, 1) := by decide +kernel
theorem dX12_tryNear_97 : decode cX12_tryNear 97 = .ok (.iload_n 1, 1) := by decide +kernel
theorem dX12_tryNear_98 : decode cX12_tryNear 98 = .ok (.iload_n 3, 1) := by decide +kernel
theorem dX12_tryNear_99 : decode cX12_tryNear 99 = .ok (.invokevirtual 389, 3) := by decide +kernel
theorem dX12_tryNear_102 : decode cX12_tryNear 102 = .ok (.ifCond .ne 6, 3) := by decide +kernel
theorem dX12_tryNear_105 : decode cX12_tryNear 105 = .ok (.goto 22, 3) := by decide +kernel
theorem dX12_tryNear_108 : decode cX12_tryNear 108 = .ok (.aload_n 0, 1) := by decide +kernel
theorem dX12_tryNear_109 : decode cX12_tryNear 109 = .ok (.getfield 50, 3) := by decide +kernel
theorem dX12_tryNear_112 : decode cX12_tryNear 112 = .ok (.iload_n 1, 1) := by decide +kernel
theorem dX12_tryNear_113 : decode cX12_tryNear 113 = .ok (.iload_n 3, 1) := by decide +kernel
theorem dX12_tryNear_114 : decode cX12_tryNear 114 = .ok (.iastore, 1) := by decide +kernel
theorem dX12_tryNear_115 : decode cX12_tryNear 115 = .ok (.aload_n 0, 1) := by decide +kernel
theorem dX12_tryNear_116 : decode cX12_tryNear 116 = .ok (.iload_n 1, 1) := by decide +kernel
theorem dX12_tryNear_117 : decode cX12_tryNear 117 = .ok (.iconst 1, 1) := by decide +kernel
theorem dX12_tryNear_118 : decode cX12_tryNear 118 = .ok (.iadd, 1) := by decide +kernel
theorem dX12_tryNear_119 : decode cX12_tryNear 119 = .ok (.iload_n 2, 1) := by decide +kernel
theorem dX12_tryNear_120 : decode cX12_tryNear 120 = .ok (.iconst 1, 1) := by decide +kernel
theorem dX12_tryNear_121 : decode cX12_tryNear 121 = .ok (.iload_n 3, 1) := by decide +kernel
theorem dX12_tryNear_122 : decode cX12_tryNear 122 = .ok (.ishl, 1) := by decide +kernel
theorem dX12_tryNear_123 : decode cX12_tryNear 123 = .ok (.ior, 1) := by decide +kernel
theorem dX12_tryNear_124 : decode cX12_tryNear 124 = .ok (.invokevirtual 392, 3) := by decide +kernel
theorem dX12_tryNear_127 : decode cX12_tryNear 127 = .ok (.iinc 3 1, 3) := by decide +kernel
theorem dX12_tryNear_130 : decode cX12_tryNear 130 = .ok (.goto (-52), 3) := by decide +kernel
theorem dX12_tryNear_133 : decode cX12_tryNear 133 = .ok (.return_, 1) := by decide +kernel
theorem dX12_seekNear_0 : decode cX12_seekNear 0 = .ok (.aload_n 0, 1) := by decide +kernel
theorem dX12_seekNear_1 : decode cX12_seekNear 1 = .ok (.iconst 0, 1) := by decide +kernel
theorem dX12_seekNear_2 : decode cX12_seekNear 2 = .ok (.putfield 386, 3) := by decide +kernel
theorem dX12_seekNear_5 : decode cX12_seekNear 5 = .ok (.iconst 0, 1) := by decide +kernel
theorem dX12_seekNear_6 : decode cX12_seekNear 6 = .ok (.istore_n 1, 1) := by decide +kernel
theorem dX12_seekNear_7 : decode cX12_seekNear 7 = .ok (.iload_n 1, 1) := by decide +kernel
theorem dX12_seekNear_8 : decode cX12_seekNear 8 = .ok (.bipush 32, 2) := by decide +kernel
theorem dX12_seekNear_10 : decode cX12_seekNear 10 = .ok (.if_icmp .ge 16, 3) := by decide +kernel
theorem dX12_seekNear_13 : decode cX12_seekNear 13 = .ok (.aload_n 0, 1) := by decide +kernel
theorem dX12_seekNear_14 : decode cX12_seekNear 14 = .ok (.getfield 56, 3) := by decide +kernel
theorem dX12_seekNear_17 : decode cX12_seekNear 17 = .ok (.iload_n 1, 1) := by decide +kernel
theorem dX12_seekNear_18 : decode cX12_seekNear 18 = .ok (.iconst 0, 1) := by decide +kernel
theorem dX12_seekNear_19 : decode cX12_seekNear 19 = .ok (.iastore, 1) := by decide +kernel
theorem dX12_seekNear_20 : decode cX12_seekNear 20 = .ok (.iinc 1 1, 3) := by decide +kernel
theorem dX12_seekNear_23 : decode cX12_seekNear 23 = .ok (.goto (-16), 3) := by decide +kernel
theorem dX12_seekNear_26 : decode cX12_seekNear 26 = .ok (.aload_n 0, 1) := by decide +kernel
theorem dX12_seekNear_27 : decode cX12_seekNear 27 = .ok (.iconst 0, 1) := by decide +kernel
theorem dX12_seekNear_28 : decode cX12_seekNear 28 = .ok (.iconst 0, 1) := by decide +kernel
theorem dX12_seekNear_29 : decode cX12_seekNear 29 = .ok (.invokevirtual 392, 3) := by decide +kernel
theorem dX12_seekNear_32 : decode cX12_seekNear 32 = .ok (.return_, 1) := by decide +kernel
theorem dX12_rows_0 : decode cX12_rows 0 = .ok (.aload_n 0, 1) := by decide +kernel
theorem dX12_rows_1 : decode cX12_rows 1 = .ok (.invokevirtual 168, 3) := by decide +kernel
theorem dX12_rows_4 : decode cX12_rows 4 = .ok (.aload_n 0, 1) := by decide +kernel
theorem dX12_rows_5 : decode cX12_rows 5 = .ok (.getfield 181, 3) := by decide +kernel
theorem dX12_rows_8 : decode cX12_rows 8 = .ok (.ifCond .ne 9, 3) := by decide +kernel
theorem dX12_rows_11 : decode cX12_rows 11 = .ok (.aload_n 0, 1) := by decide +kernel
theorem dX12_rows_12 : decode cX12_rows 12 = .ok (.iconst 1, 1) := by decide +kernel
theorem dX12_rows_13 : decode cX12_rows 13 = .ok (.invokevirtual 171, 3) := by decide +kernel
theorem dX12_rows_16 : decode cX12_rows 16 = .ok (.ireturn, 1) := by decide +kernel
theorem dX12_rows_17 : decode cX12_rows 17 = .ok (.aload_n 0, 1) := by decide +kernel
theorem dX12_rows_18 : decode cX12_rows 18 = .ok (.getfield 20, 3) := by decide +kernel
theorem dX12_rows_21 : decode cX12_rows 21 = .ok (.bipush 8, 2) := by decide +kernel
theorem dX12_rows_23 : decode cX12_rows 23 = .ok (.iaload, 1) := by decide +kernel
theorem dX12_rows_24 : decode cX12_rows 24 = .ok (.ifCond .ne 10, 3) := by decide +kernel
theorem dX12_rows_27 : decode cX12_rows 27 = .ok (.aload_n 0, 1) := by decide +kernel
theorem dX12_rows_28 : decode cX12_rows 28 = .ok (.bipush 6, 2) := by decide +kernel
theorem dX12_rows_30 : decode cX12_rows 30 = .ok (.invokevirtual 171, 3) := by decide +kernel
theorem dX12_rows_33 : decode cX12_rows 33 = .ok (.ireturn, 1) := by decide +kernel
theorem dX12_rows_34 : decode cX12_rows 34 = .ok (.aload_n 0, 1) := by decide +kernel
theorem dX12_rows_35 : decode cX12_rows 35 = .ok (.invokevirtual 395, 3) := by decide +kernel
theorem dX12_rows_38 : decode cX12_rows 38 = .ok (.aload_n 0, 1) := by decide +kernel
theorem dX12_rows_39 : decode cX12_rows 39 = .ok (.getfield 386, 3) := by decide +kernel
theorem dX12_rows_42 : decode cX12_rows 42 = .ok (.ireturn, 1) := by decide +kernel
theorem dX12_isNear_0 : decode cX12_isNear 0 = .ok (.aload_n 0, 1) := by decide +kernel
theorem dX12_isNear_1 : decode cX12_isNear 1 = .ok (.getfield 181, 3) := by decide +kernel
theorem dX12_isNear_4 : decode cX12_isNear 4 = .ok (.ifCond .eq 24, 3) := by decide +kernel
theorem dX12_isNear_7 : decode cX12_isNear 7 = .ok (.iload_n 1, 1) := by decide +kernel
theorem dX12_isNear_8 : decode cX12_isNear 8 = .ok (.iconst 0, 1) := by decide +kernel
theorem dX12_isNear_9 : decode cX12_isNear 9 = .ok (.aload_n 0, 1) := by decide +kernel
theorem dX12_isNear_10 : decode cX12_isNear 10 = .ok (.getfield 20, 3) := by decide +kernel
theorem dX12_isNear_13 : decode cX12_isNear 13 = .ok (.bipush 8, 2) := by decide +kernel
theorem dX12_isNear_15 : decode cX12_isNear 15 = .ok (.iaload, 1) := by decide +kernel
theorem dX12_isNear_16 : decode cX12_isNear 16 = .ok (.iconst 1, 1) := by decide +kernel
theorem dX12_isNear_17 : decode cX12_isNear 17 = .ok (.isub, 1) := by decide +kernel
theorem dX12_isNear_18 : decode cX12_isNear 18 = .ok (.invokestatic 150, 3) := by decide +kernel
theorem dX12_isNear_21 : decode cX12_isNear 21 = .ok (.ifCond .eq 7, 3) := by decide +kernel
theorem dX12_isNear_24 : decode cX12_isNear 24 = .ok (.iconst 1, 1) := by decide +kernel
theorem dX12_isNear_25 : decode cX12_isNear 25 = .ok (.goto 4, 3) := by decide +kernel
theorem dX12_isNear_28 : decode cX12_isNear 28 = .ok (.iconst 0, 1) := by decide +kernel
theorem dX12_isNear_29 : decode cX12_isNear 29 = .ok (.ireturn, 1) := by decide +kernel
theorem dX12_could_0 : decode cX12_could 0 = .ok (.aload_n 0, 1) := by decide +kernel
theorem dX12_could_1 : decode cX12_could 1 = .ok (.invokevirtual 168, 3) := by decide +kernel
theorem dX12_could_4 : decode cX12_could 4 = .ok (.aload_n 0, 1) := by decide +kernel
theorem dX12_could_5 : decode cX12_could 5 = .ok (.iload_n 1, 1) := by decide +kernel
theorem dX12_could_6 : decode cX12_could 6 = .ok (.invokevirtual 398, 3) := by decide +kernel
theorem dX12_could_9 : decode cX12_could 9 = .ok (.ifCond .ne 9, 3) := by decide +kernel
theorem dX12_could_12 : decode cX12_could 12 = .ok (.aload_n 0, 1) := by decide +kernel
theorem dX12_could_13 : decode cX12_could 13 = .ok (.iconst 1, 1) := by decide +kernel
theorem dX12_could_14 : decode cX12_could 14 = .ok (.invokevirtual 171, 3) := by decide +kernel
theorem dX12_could_17 : decode cX12_could 17 = .ok (.ireturn, 1) := by decide +kernel
theorem dX12_could_18 : decode cX12_could 18 = .ok (.aload_n 0, 1) := by decide +kernel
theorem dX12_could_19 : decode cX12_could 19 = .ok (.invokevirtual 395, 3) := by decide +kernel
theorem dX12_could_22 : decode cX12_could 22 = .ok (.iconst 0, 1) := by decide +kernel
theorem dX12_could_23 : decode cX12_could 23 = .ok (.istore_n 2, 1) := by decide +kernel
theorem dX12_could_24 : decode cX12_could 24 = .ok (.iconst 0, 1) := by decide +kernel
theorem dX12_could_25 : decode cX12_could 25 = .ok (.istore_n 3, 1) := by decide +kernel
theorem dX12_could_26 : decode cX12_could 26 = .ok (.iload_n 3, 1) := by decide +kernel
theorem dX12_could_27 : decode cX12_could 27 = .ok (.aload_n 0, 1) := by decide +kernel
theorem dX12_could_28 : decode cX12_could 28 = .ok (.getfield 20, 3) := by decide +kernel
theorem dX12_could_31 : decode cX12_could 31 = .ok (.iconst 4, 1) := by decide +kernel
theorem dX12_could_32 : decode cX12_could 32 = .ok (.iaload, 1) := by decide +kernel
theorem dX12_could_33 : decode cX12_could 33 = .ok (.if_icmp .ge 33, 3) := by decide +kernel
theorem dX12_could_36 : decode cX12_could 36 = .ok (.iload_n 2, 1) := by decide +kernel
theorem dX12_could_37 : decode cX12_could 37 = .ok (.aload_n 0, 1) := by decide +kernel
theorem dX12_could_38 : decode cX12_could 38 = .ok (.getfield 56, 3) := by decide +kernel
theorem dX12_could_41 : decode cX12_could 41 = .ok (.bipush 8, 2) := by decide +kernel
theorem dX12_could_43 : decode cX12_could 43 = .ok (.iload_n 1, 1) := by decide +kernel
theorem dX12_could_44 : decode cX12_could 44 = .ok (.imul, 1) := by decide +kernel
theorem dX12_could_45 : decode cX12_could 45 = .ok (.iload_n 3, 1) := by decide +kernel
theorem dX12_could_46 : decode cX12_could 46 = .ok (.iadd, 1) := by decide +kernel
theorem dX12_could_47 : decode cX12_could 47 = .ok (.iaload, 1) := by decide +kernel
theorem dX12_could_48 : decode cX12_could 48 = .ok (.ifCond .le 9, 3) := by decide +kernel
theorem dX12_could_51 : decode cX12_could 51 = .ok (.iconst 1, 1) := by decide +kernel
theorem dX12_could_52 : decode cX12_could 52 = .ok (.iload_n 3, 1) := by decide +kernel
theorem dX12_could_53 : decode cX12_could 53 = .ok (.ishl, 1) := by decide +kernel
theorem dX12_could_54 : decode cX12_could 54 = .ok (.goto 4, 3) := by decide +kernel
theorem dX12_could_57 : decode cX12_could 57 = .ok (.iconst 0, 1) := by decide +kernel
theorem dX12_could_58 : decode cX12_could 58 = .ok (.ior, 1) := by decide +kernel
theorem dX12_could_59 : decode cX12_could 59 = .ok (.istore_n 2, 1) := by decide +kernel
theorem dX12_could_60 : decode cX12_could 60 = .ok (.iinc 3 1, 3) := by decide +kernel
theorem dX12_could_63 : decode cX12_could 63 = .ok (.goto (-37), 3) := by decide +kernel
theorem dX12_could_66 : decode cX12_could 66 = .ok (.iload_n 2, 1) := by decide +kernel
theorem dX12_could_67 : decode cX12_could 67 = .ok (.ireturn, 1) := by decide +kernel
theorem dX12_surely_0 : decode cX12_surely 0 = .ok (.aload_n 0, 1) := by decide +kernel
theorem dX12_surely_1 : decode cX12_surely 1 = .ok (.invokevirtual 168, 3) := by decide +kernel
theorem dX12_surely_4 : decode cX12_surely 4 = .ok (.aload_n 0, 1) := by decide +kernel
theorem dX12_surely_5 : decode cX12_surely 5 = .ok (.iload_n 1, 1) := by decide +kernel
theorem dX12_surely_6 : decode cX12_surely 6 = .ok (.invokevirtual 398, 3) := by decide +kernel
theorem dX12_surely_9 : decode cX12_surely 9 = .ok (.ifCond .ne 9, 3) := by decide +kernel
theorem dX12_surely_12 : decode cX12_surely 12 = .ok (.aload_n 0, 1) := by decide +kernel
theorem dX12_surely_13 : decode cX12_surely 13 = .ok (.iconst 1, 1) := by decide +kernel
theorem dX12_surely_14 : decode cX12_surely 14 = .ok (.invokevirtual 171, 3) := by decide +kernel
theorem dX12_surely_17 : decode cX12_surely 17 = .ok (.ireturn, 1) := by decide +kernel
theorem dX12_surely_18 : decode cX12_surely 18 = .ok (.aload_n 0, 1) := by decide +kernel
theorem dX12_surely_19 : decode cX12_surely 19 = .ok (.invokevirtual 395, 3) := by decide +kernel
theorem dX12_surely_22 : decode cX12_surely 22 = .ok (.iconst 0, 1) := by decide +kernel
theorem dX12_surely_23 : decode cX12_surely 23 = .ok (.istore_n 2, 1) := by decide +kernel
theorem dX12_surely_24 : decode cX12_surely 24 = .ok (.iload_n 2, 1) := by decide +kernel
theorem dX12_surely_25 : decode cX12_surely 25 = .ok (.aload_n 0, 1) := by decide +kernel
theorem dX12_surely_26 : decode cX12_surely 26 = .ok (.getfield 20, 3) := by decide +kernel
theorem dX12_surely_29 : decode cX12_surely 29 = .ok (.iconst 4, 1) := by decide +kernel
theorem dX12_surely_30 : decode cX12_surely 30 = .ok (.iaload, 1) := by decide +kernel
theorem dX12_surely_31 : decode cX12_surely 31 = .ok (.if_icmp .ge 36, 3) := by decide +kernel
theorem dX12_surely_34 : decode cX12_surely 34 = .ok (.aload_n 0, 1) := by decide +kernel
theorem dX12_surely_35 : decode cX12_surely 35 = .ok (.getfield 386, 3) := by decide +kernel
theorem dX12_surely_38 : decode cX12_surely 38 = .ok (.ifCond .le 23, 3) := by decide +kernel
theorem dX12_surely_41 : decode cX12_surely 41 = .ok (.aload_n 0, 1) := by decide +kernel
theorem dX12_surely_42 : decode cX12_surely 42 = .ok (.getfield 56, 3) := by decide +kernel
theorem dX12_surely_45 : decode cX12_surely 45 = .ok (.bipush 8, 2) := by decide +kernel
theorem dX12_surely_47 : decode cX12_surely 47 = .ok (.iload_n 1, 1) := by decide +kernel
theorem dX12_surely_48 : decode cX12_surely 48 = .ok (.imul, 1) := by decide +kernel
theorem dX12_surely_49 : decode cX12_surely 49 = .ok (.iload_n 2, 1) := by decide +kernel
theorem dX12_surely_50 : decode cX12_surely 50 = .ok (.iadd, 1) := by decide +kernel
theorem dX12_surely_51 : decode cX12_surely 51 = .ok (.iaload, 1) := by decide +kernel
theorem dX12_surely_52 : decode cX12_surely 52 = .ok (.aload_n 0, 1) := by decide +kernel
theorem dX12_surely_53 : decode cX12_surely 53 = .ok (.getfield 386, 3) := by decide +kernel
theorem dX12_surely_56 : decode cX12_surely 56 = .ok (.if_icmp .ne 5, 3) := by decide +kernel
theorem dX12_surely_59 : decode cX12_surely 59 = .ok (.iload_n 2, 1) := by decide +kernel
theorem dX12_surely_60 : decode cX12_surely 60 = .ok (.ireturn, 1) := by decide +kernel
theorem dX12_surely_61 : decode cX12_surely 61 = .ok (.iinc 2 1, 3) := by decide +kernel
theorem dX12_surely_64 : decode cX12_surely 64 = .ok (.goto (-40), 3) := by decide +kernel
theorem dX12_surely_67 : decode cX12_surely 67 = .ok (.bipush (-2), 2) := by decide +kernel
theorem dX12_surely_69 : decode cX12_surely 69 = .ok (.ireturn, 1) := by decide +kernel
theorem dX12_firstOf_0 : decode cX12_firstOf 0 = .ok (.aload_n 0, 1) := by decide +kernel
theorem dX12_firstOf_1 : decode cX12_firstOf 1 = .ok (.invokevirtual 168, 3) := by decide +kernel
theorem dX12_firstOf_4 : decode cX12_firstOf 4 = .ok (.aload_n 0, 1) := by decide +kernel
theorem dX12_firstOf_5 : decode cX12_firstOf 5 = .ok (.iload_n 1, 1) := by decide +kernel
theorem dX12_firstOf_6 : decode cX12_firstOf 6 = .ok (.invokevirtual 398, 3) := by decide +kernel
theorem dX12_firstOf_9 : decode cX12_firstOf 9 = .ok (.ifCond .ne 9, 3) := by decide +kernel
theorem dX12_firstOf_12 : decode cX12_firstOf 12 = .ok (.aload_n 0, 1) := by decide +kernel
theorem dX12_firstOf_13 : decode cX12_firstOf 13 = .ok (.iconst 1, 1) := by decide +kernel
theorem dX12_firstOf_14 : decode cX12_firstOf 14 = .ok (.invokevirtual 171, 3) := by decide +kernel
theorem dX12_firstOf_17 : decode cX12_firstOf 17 = .ok (.ireturn, 1) := by decide +kernel
theorem dX12_firstOf_18 : decode cX12_firstOf 18 = .ok (.aload_n 0, 1) := by decide +kernel
theorem dX12_firstOf_19 : decode cX12_firstOf 19 = .ok (.invokevirtual 395, 3) := by decide +kernel
theorem dX12_firstOf_22 : decode cX12_firstOf 22 = .ok (.aload_n 0, 1) := by decide +kernel
theorem dX12_firstOf_23 : decode cX12_firstOf 23 = .ok (.getfield 386, 3) := by decide +kernel
theorem dX12_firstOf_26 : decode cX12_firstOf 26 = .ok (.ifCond .ne 8, 3) := by decide +kernel
theorem dX12_firstOf_29 : decode cX12_firstOf 29 = .ok (.bipush (-2), 2) := by decide +kernel
theorem dX12_firstOf_31 : decode cX12_firstOf 31 = .ok (.goto 9, 3) := by decide +kernel
theorem dX12_firstOf_34 : decode cX12_firstOf 34 = .ok (.aload_n 0, 1) := by decide +kernel
theorem dX12_firstOf_35 : decode cX12_firstOf 35 = .ok (.getfield 53, 3) := by decide +kernel
theorem dX12_firstOf_38 : decode cX12_firstOf 38 = .ok (.iload_n 1, 1) := by decide +kernel
theorem dX12_firstOf_39 : decode cX12_firstOf 39 = .ok (.iaload, 1) := by decide +kernel
theorem dX12_firstOf_40 : decode cX12_firstOf 40 = .ok (.ireturn, 1) := by decide +kernel
theorem dX12_leavesBy_0 : decode cX12_leavesBy 0 = .ok (.iconst 0, 1) := by decide +kernel
theorem dX12_leavesBy_1 : decode cX12_leavesBy 1 = .ok (.istore_n 2, 1) := by decide +kernel
theorem dX12_leavesBy_2 : decode cX12_leavesBy 2 = .ok (.iconst 0, 1) := by decide +kernel
theorem dX12_leavesBy_3 : decode cX12_leavesBy 3 = .ok (.istore_n 3, 1) := by decide +kernel
theorem dX12_leavesBy_4 : decode cX12_leavesBy 4 = .ok (.iload_n 3, 1) := by decide +kernel
theorem dX12_leavesBy_5 : decode cX12_leavesBy 5 = .ok (.aload_n 0, 1) := by decide +kernel
theorem dX12_leavesBy_6 : decode cX12_leavesBy 6 = .ok (.getfield 20, 3) := by decide +kernel
theorem dX12_leavesBy_9 : decode cX12_leavesBy 9 = .ok (.iconst 4, 1) := by decide +kernel
theorem dX12_leavesBy_10 : decode cX12_leavesBy 10 = .ok (.iaload, 1) := by decide +kernel
theorem dX12_leavesBy_11 : decode cX12_leavesBy 11 = .ok (.if_icmp .ge 40, 3) := by decide +kernel
theorem dX12_leavesBy_14 : decode cX12_leavesBy 14 = .ok (.aload_n 0, 1) := by decide +kernel
theorem dX12_leavesBy_15 : decode cX12_leavesBy 15 = .ok (.getfield 56, 3) := by decide +kernel
theorem dX12_leavesBy_18 : decode cX12_leavesBy 18 = .ok (.bipush 8, 2) := by decide +kernel
theorem dX12_leavesBy_20 : decode cX12_leavesBy 20 = .ok (.iload_n 1, 1) := by decide +kernel
theorem dX12_leavesBy_21 : decode cX12_leavesBy 21 = .ok (.imul, 1) := by decide +kernel
theorem dX12_leavesBy_22 : decode cX12_leavesBy 22 = .ok (.iload_n 3, 1) := by decide +kernel
theorem dX12_leavesBy_23 : decode cX12_leavesBy 23 = .ok (.iadd, 1) := by decide +kernel
theorem dX12_leavesBy_24 : decode cX12_leavesBy 24 = .ok (.iaload, 1) := by decide +kernel
theorem dX12_leavesBy_25 : decode cX12_leavesBy 25 = .ok (.iload_n 2, 1) := by decide +kernel
theorem dX12_leavesBy_26 : decode cX12_leavesBy 26 = .ok (.if_icmp .le 17, 3) := by decide +kernel
theorem dX12_leavesBy_29 : decode cX12_leavesBy 29 = .ok (.aload_n 0, 1) := by decide +kernel
theorem dX12_leavesBy_30 : decode cX12_leavesBy 30 = .ok (.getfield 56, 3) := by decide +kernel
theorem dX12_leavesBy_33 : decode cX12_leavesBy 33 = .ok (.bipush 8, 2) := by decide +kernel
theorem dX12_leavesBy_35 : decode cX12_leavesBy 35 = .ok (.iload_n 1, 1) := by decide +kernel
theorem dX12_leavesBy_36 : decode cX12_leavesBy 36 = .ok (.imul, 1) := by decide +kernel
theorem dX12_leavesBy_37 : decode cX12_leavesBy 37 = .ok (.iload_n 3, 1) := by decide +kernel
theorem dX12_leavesBy_38 : decode cX12_leavesBy 38 = .ok (.iadd, 1) := by decide +kernel
theorem dX12_leavesBy_39 : decode cX12_leavesBy 39 = .ok (.iaload, 1) := by decide +kernel
theorem dX12_leavesBy_40 : decode cX12_leavesBy 40 = .ok (.goto 4, 3) := by decide +kernel
theorem dX12_leavesBy_43 : decode cX12_leavesBy 43 = .ok (.iload_n 2, 1) := by decide +kernel
theorem dX12_leavesBy_44 : decode cX12_leavesBy 44 = .ok (.istore_n 2, 1) := by decide +kernel
theorem dX12_leavesBy_45 : decode cX12_leavesBy 45 = .ok (.iinc 3 1, 3) := by decide +kernel
theorem dX12_leavesBy_48 : decode cX12_leavesBy 48 = .ok (.goto (-44), 3) := by decide +kernel
theorem dX12_leavesBy_51 : decode cX12_leavesBy 51 = .ok (.iload_n 2, 1) := by decide +kernel
theorem dX12_leavesBy_52 : decode cX12_leavesBy 52 = .ok (.ireturn, 1) := by decide +kernel
theorem dX12_askOf_0 : decode cX12_askOf 0 = .ok (.aload_n 0, 1) := by decide +kernel
theorem dX12_askOf_1 : decode cX12_askOf 1 = .ok (.invokevirtual 395, 3) := by decide +kernel
theorem dX12_askOf_4 : decode cX12_askOf 4 = .ok (.aload_n 0, 1) := by decide +kernel
theorem dX12_askOf_5 : decode cX12_askOf 5 = .ok (.getfield 386, 3) := by decide +kernel
theorem dX12_askOf_8 : decode cX12_askOf 8 = .ok (.ifCond .ne 6, 3) := by decide +kernel
theorem dX12_askOf_11 : decode cX12_askOf 11 = .ok (.bipush (-2), 2) := by decide +kernel
theorem dX12_askOf_13 : decode cX12_askOf 13 = .ok (.ireturn, 1) := by decide +kernel
theorem dX12_askOf_14 : decode cX12_askOf 14 = .ok (.iconst 0, 1) := by decide +kernel
theorem dX12_askOf_15 : decode cX12_askOf 15 = .ok (.istore_n 1, 1) := by decide +kernel
theorem dX12_askOf_16 : decode cX12_askOf 16 = .ok (.iconst 1, 1) := by decide +kernel
theorem dX12_askOf_17 : decode cX12_askOf 17 = .ok (.istore_n 2, 1) := by decide +kernel
theorem dX12_askOf_18 : decode cX12_askOf 18 = .ok (.iload_n 2, 1) := by decide +kernel
theorem dX12_askOf_19 : decode cX12_askOf 19 = .ok (.aload_n 0, 1) := by decide +kernel
theorem dX12_askOf_20 : decode cX12_askOf 20 = .ok (.getfield 20, 3) := by decide +kernel
theorem dX12_askOf_23 : decode cX12_askOf 23 = .ok (.bipush 8, 2) := by decide +kernel
theorem dX12_askOf_25 : decode cX12_askOf 25 = .ok (.iaload, 1) := by decide +kernel
theorem dX12_askOf_26 : decode cX12_askOf 26 = .ok (.if_icmp .ge 28, 3) := by decide +kernel
theorem dX12_askOf_29 : decode cX12_askOf 29 = .ok (.aload_n 0, 1) := by decide +kernel
theorem dX12_askOf_30 : decode cX12_askOf 30 = .ok (.iload_n 2, 1) := by decide +kernel
theorem dX12_askOf_31 : decode cX12_askOf 31 = .ok (.invokevirtual 401, 3) := by decide +kernel
theorem dX12_askOf_34 : decode cX12_askOf 34 = .ok (.aload_n 0, 1) := by decide +kernel
theorem dX12_askOf_35 : decode cX12_askOf 35 = .ok (.iload_n 1, 1) := by decide +kernel
theorem dX12_askOf_36 : decode cX12_askOf 36 = .ok (.invokevirtual 401, 3) := by decide +kernel
theorem dX12_askOf_39 : decode cX12_askOf 39 = .ok (.if_icmp .ge 7, 3) := by decide +kernel
theorem dX12_askOf_42 : decode cX12_askOf 42 = .ok (.iload_n 2, 1) := by decide +kernel
theorem dX12_askOf_43 : decode cX12_askOf 43 = .ok (.goto 4, 3) := by decide +kernel
theorem dX12_askOf_46 : decode cX12_askOf 46 = .ok (.iload_n 1, 1) := by decide +kernel
theorem dX12_askOf_47 : decode cX12_askOf 47 = .ok (.istore_n 1, 1) := by decide +kernel
theorem dX12_askOf_48 : decode cX12_askOf 48 = .ok (.iinc 2 1, 3) := by decide +kernel
theorem dX12_askOf_51 : decode cX12_askOf 51 = .ok (.goto (-33), 3) := by decide +kernel
theorem dX12_askOf_54 : decode cX12_askOf 54 = .ok (.iload_n 1, 1) := by decide +kernel
theorem dX12_askOf_55 : decode cX12_askOf 55 = .ok (.ireturn, 1) := by decide +kernel
theorem dX12_nearWhy_0 : decode cX12_nearWhy 0 = .ok (.aload_n 0, 1) := by decide +kernel
theorem dX12_nearWhy_1 : decode cX12_nearWhy 1 = .ok (.getfield 181, 3) := by decide +kernel
theorem dX12_nearWhy_4 : decode cX12_nearWhy 4 = .ok (.ifCond .ne 7, 3) := by decide +kernel
theorem dX12_nearWhy_7 : decode cX12_nearWhy 7 = .ok (.iconst 1, 1) := by decide +kernel
theorem dX12_nearWhy_8 : decode cX12_nearWhy 8 = .ok (.goto 19, 3) := by decide +kernel
theorem dX12_nearWhy_11 : decode cX12_nearWhy 11 = .ok (.aload_n 0, 1) := by decide +kernel
theorem dX12_nearWhy_12 : decode cX12_nearWhy 12 = .ok (.getfield 20, 3) := by decide +kernel
theorem dX12_nearWhy_15 : decode cX12_nearWhy 15 = .ok (.bipush 8, 2) := by decide +kernel
theorem dX12_nearWhy_17 : decode cX12_nearWhy 17 = .ok (.iaload, 1) := by decide +kernel
theorem dX12_nearWhy_18 : decode cX12_nearWhy 18 = .ok (.ifCond .ne 8, 3) := by decide +kernel
theorem dX12_nearWhy_21 : decode cX12_nearWhy 21 = .ok (.bipush 6, 2) := by decide +kernel
theorem dX12_nearWhy_23 : decode cX12_nearWhy 23 = .ok (.goto 4, 3) := by decide +kernel
theorem dX12_nearWhy_26 : decode cX12_nearWhy 26 = .ok (.iconst 0, 1) := by decide +kernel
theorem dX12_nearWhy_27 : decode cX12_nearWhy 27 = .ok (.ireturn, 1) := by decide +kernel
theorem dX12_ask_0 : decode cX12_ask 0 = .ok (.aload_n 0, 1) := by decide +kernel
theorem dX12_ask_1 : decode cX12_ask 1 = .ok (.invokevirtual 168, 3) := by decide +kernel
theorem dX12_ask_4 : decode cX12_ask 4 = .ok (.aload_n 0, 1) := by decide +kernel
theorem dX12_ask_5 : decode cX12_ask 5 = .ok (.invokevirtual 404, 3) := by decide +kernel
theorem dX12_ask_8 : decode cX12_ask 8 = .ok (.ifCond .eq 14, 3) := by decide +kernel
theorem dX12_ask_11 : decode cX12_ask 11 = .ok (.aload_n 0, 1) := by decide +kernel
theorem dX12_ask_12 : decode cX12_ask 12 = .ok (.aload_n 0, 1) := by decide +kernel
theorem dX12_ask_13 : decode cX12_ask 13 = .ok (.invokevirtual 404, 3) := by decide +kernel
theorem dX12_ask_16 : decode cX12_ask 16 = .ok (.invokevirtual 171, 3) := by decide +kernel
theorem dX12_ask_19 : decode cX12_ask 19 = .ok (.goto 7, 3) := by decide +kernel
theorem dX12_ask_22 : decode cX12_ask 22 = .ok (.aload_n 0, 1) := by decide +kernel
theorem dX12_ask_23 : decode cX12_ask 23 = .ok (.invokevirtual 407, 3) := by decide +kernel
theorem dX12_ask_26 : decode cX12_ask 26 = .ok (.ireturn, 1) := by decide +kernel
theorem dX12_askLeaves_0 : decode cX12_askLeaves 0 = .ok (.aload_n 0, 1) := by decide +kernel
theorem dX12_askLeaves_1 : decode cX12_askLeaves 1 = .ok (.invokevirtual 168, 3) := by decide +kernel
theorem dX12_askLeaves_4 : decode cX12_askLeaves 4 = .ok (.aload_n 0, 1) := by decide +kernel
theorem dX12_askLeaves_5 : decode cX12_askLeaves 5 = .ok (.invokevirtual 404, 3) := by decide +kernel
theorem dX12_askLeaves_8 : decode cX12_askLeaves 8 = .ok (.ifCond .eq 12, 3) := by decide +kernel
theorem dX12_askLeaves_11 : decode cX12_askLeaves 11 = .ok (.aload_n 0, 1) := by decide +kernel
theorem dX12_askLeaves_12 : decode cX12_askLeaves 12 = .ok (.aload_n 0, 1) := by decide +kernel
theorem dX12_askLeaves_13 : decode cX12_askLeaves 13 = .ok (.invokevirtual 404, 3) := by decide +kernel
theorem dX12_askLeaves_16 : decode cX12_askLeaves 16 = .ok (.invokevirtual 171, 3) := by decide +kernel
theorem dX12_askLeaves_19 : decode cX12_askLeaves 19 = .ok (.ireturn, 1) := by decide +kernel
theorem dX12_askLeaves_20 : decode cX12_askLeaves 20 = .ok (.aload_n 0, 1) := by decide +kernel
theorem dX12_askLeaves_21 : decode cX12_askLeaves 21 = .ok (.invokevirtual 407, 3) := by decide +kernel
theorem dX12_askLeaves_24 : decode cX12_askLeaves 24 = .ok (.istore_n 1, 1) := by decide +kernel
theorem dX12_askLeaves_25 : decode cX12_askLeaves 25 = .ok (.iload_n 1, 1) := by decide +kernel
theorem dX12_askLeaves_26 : decode cX12_askLeaves 26 = .ok (.ifCond .ge 8, 3) := by decide +kernel
theorem dX12_askLeaves_29 : decode cX12_askLeaves 29 = .ok (.bipush (-2), 2) := by decide +kernel
theorem dX12_askLeaves_31 : decode cX12_askLeaves 31 = .ok (.goto 8, 3) := by decide +kernel
theorem dX12_askLeaves_34 : decode cX12_askLeaves 34 = .ok (.aload_n 0, 1) := by decide +kernel
theorem dX12_askLeaves_35 : decode cX12_askLeaves 35 = .ok (.iload_n 1, 1) := by decide +kernel
theorem dX12_askLeaves_36 : decode cX12_askLeaves 36 = .ok (.invokevirtual 401, 3) := by decide +kernel
theorem dX12_askLeaves_39 : decode cX12_askLeaves 39 = .ok (.ireturn, 1) := by decide +kernel
theorem dX12_judge_0 : decode cX12_judge 0 = .ok (.aload_n 0, 1) := by decide +kernel
theorem dX12_judge_1 : decode cX12_judge 1 = .ok (.invokevirtual 168, 3) := by decide +kernel
theorem dX12_judge_4 : decode cX12_judge 4 = .ok (.aload_n 0, 1) := by decide +kernel
theorem dX12_judge_5 : decode cX12_judge 5 = .ok (.getfield 181, 3) := by decide +kernel
theorem dX12_judge_8 : decode cX12_judge 8 = .ok (.ifCond .ne 9, 3) := by decide +kernel
theorem dX12_judge_11 : decode cX12_judge 11 = .ok (.aload_n 0, 1) := by decide +kernel
theorem dX12_judge_12 : decode cX12_judge 12 = .ok (.iconst 1, 1) := by decide +kernel
theorem dX12_judge_13 : decode cX12_judge 13 = .ok (.invokevirtual 171, 3) := by decide +kernel
theorem dX12_judge_16 : decode cX12_judge 16 = .ok (.ireturn, 1) := by decide +kernel
theorem dX12_judge_17 : decode cX12_judge 17 = .ok (.iconst 0, 1) := by decide +kernel
theorem dX12_judge_18 : decode cX12_judge 18 = .ok (.istore_n 1, 1) := by decide +kernel
theorem dX12_judge_19 : decode cX12_judge 19 = .ok (.iload_n 1, 1) := by decide +kernel
theorem dX12_judge_20 : decode cX12_judge 20 = .ok (.aload_n 0, 1) := by decide +kernel
theorem dX12_judge_21 : decode cX12_judge 21 = .ok (.getfield 20, 3) := by decide +kernel
theorem dX12_judge_24 : decode cX12_judge 24 = .ok (.bipush 8, 2) := by decide +kernel
theorem dX12_judge_26 : decode cX12_judge 26 = .ok (.iaload, 1) := by decide +kernel
theorem dX12_judge_27 : decode cX12_judge 27 = .ok (.if_icmp .ge 54, 3) := by decide +kernel
theorem dX12_judge_30 : decode cX12_judge 30 = .ok (.iconst 0, 1) := by decide +kernel
theorem dX12_judge_31 : decode cX12_judge 31 = .ok (.istore_n 2, 1) := by decide +kernel
theorem dX12_judge_32 : decode cX12_judge 32 = .ok (.iconst 0, 1) := by decide +kernel
theorem dX12_judge_33 : decode cX12_judge 33 = .ok (.istore_n 3, 1) := by decide +kernel
theorem dX12_judge_34 : decode cX12_judge 34 = .ok (.iload_n 3, 1) := by decide +kernel
theorem dX12_judge_35 : decode cX12_judge 35 = .ok (.aload_n 0, 1) := by decide +kernel
theorem dX12_judge_36 : decode cX12_judge 36 = .ok (.getfield 20, 3) := by decide +kernel
theorem dX12_judge_39 : decode cX12_judge 39 = .ok (.iconst 4, 1) := by decide +kernel
theorem dX12_judge_40 : decode cX12_judge 40 = .ok (.iaload, 1) := by decide +kernel
theorem dX12_judge_41 : decode cX12_judge 41 = .ok (.if_icmp .ge 28, 3) := by decide +kernel
theorem dX12_judge_44 : decode cX12_judge 44 = .ok (.iload_n 2, 1) := by decide +kernel
theorem dX12_judge_45 : decode cX12_judge 45 = .ok (.ifCond .ne 12, 3) := by decide +kernel
theorem dX12_judge_48 : decode cX12_judge 48 = .ok (.aload_n 0, 1) := by decide +kernel
theorem dX12_judge_49 : decode cX12_judge 49 = .ok (.iload_n 1, 1) := by decide +kernel
theorem dX12_judge_50 : decode cX12_judge 50 = .ok (.iload_n 3, 1) := by decide +kernel
theorem dX12_judge_51 : decode cX12_judge 51 = .ok (.invokevirtual 389, 3) := by decide +kernel
theorem dX12_judge_54 : decode cX12_judge 54 = .ok (.ifCond .eq 7, 3) := by decide +kernel
theorem dX12_judge_57 : decode cX12_judge 57 = .ok (.iconst 1, 1) := by decide +kernel
theorem dX12_judge_58 : decode cX12_judge 58 = .ok (.goto 4, 3) := by decide +kernel
theorem dX12_judge_61 : decode cX12_judge 61 = .ok (.iconst 0, 1) := by decide +kernel
theorem dX12_judge_62 : decode cX12_judge 62 = .ok (.istore_n 2, 1) := by decide +kernel
theorem dX12_judge_63 : decode cX12_judge 63 = .ok (.iinc 3 1, 3) := by decide +kernel
theorem dX12_judge_66 : decode cX12_judge 66 = .ok (.goto (-32), 3) := by decide +kernel
theorem dX12_judge_69 : decode cX12_judge 69 = .ok (.iload_n 2, 1) := by decide +kernel
theorem dX12_judge_70 : decode cX12_judge 70 = .ok (.ifCond .ne 5, 3) := by decide +kernel
theorem dX12_judge_73 : decode cX12_judge 73 = .ok (.iload_n 1, 1) := by decide +kernel
theorem dX12_judge_74 : decode cX12_judge 74 = .ok (.ireturn, 1) := by decide +kernel
theorem dX12_judge_75 : decode cX12_judge 75 = .ok (.iinc 1 1, 3) := by decide +kernel
theorem dX12_judge_78 : decode cX12_judge 78 = .ok (.goto (-59), 3) := by decide +kernel
theorem dX12_judge_81 : decode cX12_judge 81 = .ok (.bipush (-2), 2) := by decide +kernel
theorem dX12_judge_83 : decode cX12_judge 83 = .ok (.ireturn, 1) := by decide +kernel
theorem dX12_courts_0 : decode cX12_courts 0 = .ok (.iconst 0, 1) := by decide +kernel
theorem dX12_courts_1 : decode cX12_courts 1 = .ok (.istore_n 3, 1) := by decide +kernel
theorem dX12_courts_2 : decode cX12_courts 2 = .ok (.iload_n 3, 1) := by decide +kernel
theorem dX12_courts_3 : decode cX12_courts 3 = .ok (.aload_n 0, 1) := by decide +kernel
theorem dX12_courts_4 : decode cX12_courts 4 = .ok (.getfield 20, 3) := by decide +kernel
theorem dX12_courts_7 : decode cX12_courts 7 = .ok (.iconst 1, 1) := by decide +kernel
theorem dX12_courts_8 : decode cX12_courts 8 = .ok (.iaload, 1) := by decide +kernel
theorem dX12_courts_9 : decode cX12_courts 9 = .ok (.if_icmp .ge 45, 3) := by decide +kernel
theorem dX12_courts_12 : decode cX12_courts 12 = .ok (.aload_n 0, 1) := by decide +kernel
theorem dX12_courts_13 : decode cX12_courts 13 = .ok (.bipush 75, 2) := by decide +kernel
theorem dX12_courts_15 : decode cX12_courts 15 = .ok (.aload_n 0, 1) := by decide +kernel
theorem dX12_courts_16 : decode cX12_courts 16 = .ok (.getfield 410, 3) := by decide +kernel
theorem dX12_courts_19 : decode cX12_courts 19 = .ok (.imul, 1) := by decide +kernel
theorem dX12_courts_20 : decode cX12_courts 20 = .ok (.bipush 74, 2) := by decide +kernel
theorem dX12_courts_22 : decode cX12_courts 22 = .ok (.iadd, 1) := by decide +kernel
theorem dX12_courts_23 : decode cX12_courts 23 = .ok (.ldc_w 413, 3) := by decide +kernel
theorem dX12_courts_26 : decode cX12_courts 26 = .ok (.irem, 1) := by decide +kernel
theorem dX12_courts_27 : decode cX12_courts 27 = .ok (.putfield 410, 3) := by decide +kernel
theorem dX12_courts_30 : decode cX12_courts 30 = .ok (.aload_n 0, 1) := by decide +kernel
theorem dX12_courts_31 : decode cX12_courts 31 = .ok (.getfield 410, 3) := by decide +kernel
theorem dX12_courts_34 : decode cX12_courts 34 = .ok (.bipush 100, 2) := by decide +kernel
theorem dX12_courts_36 : decode cX12_courts 36 = .ok (.irem, 1) := by decide +kernel
theorem dX12_courts_37 : decode cX12_courts 37 = .ok (.aload_n 0, 1) := by decide +kernel
theorem dX12_courts_38 : decode cX12_courts 38 = .ok (.iload_n 1, 1) := by decide +kernel
theorem dX12_courts_39 : decode cX12_courts 39 = .ok (.iload_n 2, 1) := by decide +kernel
theorem dX12_courts_40 : decode cX12_courts 40 = .ok (.invokevirtual 301, 3) := by decide +kernel
theorem dX12_courts_43 : decode cX12_courts 43 = .ok (.if_icmp .lt 5, 3) := by decide +kernel
theorem dX12_courts_46 : decode cX12_courts 46 = .ok (.iconst 0, 1) := by decide +kernel
theorem dX12_courts_47 : decode cX12_courts 47 = .ok (.ireturn, 1) := by decide +kernel
theorem dX12_courts_48 : decode cX12_courts 48 = .ok (.iinc 3 1, 3) := by decide +kernel
theorem dX12_courts_51 : decode cX12_courts 51 = .ok (.goto (-49), 3) := by decide +kernel
theorem dX12_courts_54 : decode cX12_courts 54 = .ok (.iconst 1, 1) := by decide +kernel
theorem dX12_courts_55 : decode cX12_courts 55 = .ok (.ireturn, 1) := by decide +kernel
theorem dX12_goThrough_0 : decode cX12_goThrough 0 = .ok (.aload_n 0, 1) := by decide +kernel
theorem dX12_goThrough_1 : decode cX12_goThrough 1 = .ok (.getfield 26, 3) := by decide +kernel
theorem dX12_goThrough_4 : decode cX12_goThrough 4 = .ok (.iconst 1, 1) := by decide +kernel
theorem dX12_goThrough_5 : decode cX12_goThrough 5 = .ok (.iaload, 1) := by decide +kernel
theorem dX12_goThrough_6 : decode cX12_goThrough 6 = .ok (.istore_n 2, 1) := by decide +kernel
theorem dX12_goThrough_7 : decode cX12_goThrough 7 = .ok (.aload_n 0, 1) := by decide +kernel
theorem dX12_goThrough_8 : decode cX12_goThrough 8 = .ok (.getfield 26, 3) := by decide +kernel
theorem dX12_goThrough_11 : decode cX12_goThrough 11 = .ok (.iconst 4, 1) := by decide +kernel
theorem dX12_goThrough_12 : decode cX12_goThrough 12 = .ok (.iaload, 1) := by decide +kernel
theorem dX12_goThrough_13 : decode cX12_goThrough 13 = .ok (.istore_n 3, 1) := by decide +kernel
theorem dX12_goThrough_14 : decode cX12_goThrough 14 = .ok (.aload_n 0, 1) := by decide +kernel
theorem dX12_goThrough_15 : decode cX12_goThrough 15 = .ok (.bipush (-2), 2) := by decide +kernel
theorem dX12_goThrough_17 : decode cX12_goThrough 17 = .ok (.putfield 414, 3) := by decide +kernel
theorem dX12_goThrough_20 : decode cX12_goThrough 20 = .ok (.iconst 1, 1) := by decide +kernel
theorem dX12_goThrough_21 : decode cX12_goThrough 21 = .ok (.istore 4, 2) := by decide +kernel
theorem dX12_goThrough_23 : decode cX12_goThrough 23 = .ok (.iload 4, 2) := by decide +kernel
theorem dX12_goThrough_25 : decode cX12_goThrough 25 = .ok (.iload_n 1, 1) := by decide +kernel
theorem dX12_goThrough_26 : decode cX12_goThrough 26 = .ok (.if_icmp .gt 146, 3) := by decide +kernel
theorem dX12_goThrough_29 : decode cX12_goThrough 29 = .ok (.aload_n 0, 1) := by decide +kernel
theorem dX12_goThrough_30 : decode cX12_goThrough 30 = .ok (.getfield 26, 3) := by decide +kernel
theorem dX12_goThrough_33 : decode cX12_goThrough 33 = .ok (.iconst 0, 1) := by decide +kernel
theorem dX12_goThrough_34 : decode cX12_goThrough 34 = .ok (.iaload, 1) := by decide +kernel
theorem dX12_goThrough_35 : decode cX12_goThrough 35 = .ok (.iload 4, 2) := by decide +kernel
theorem dX12_goThrough_37 : decode cX12_goThrough 37 = .ok (.iadd, 1) := by decide +kernel
theorem dX12_goThrough_38 : decode cX12_goThrough 38 = .ok (.istore 5, 2) := by decide +kernel
theorem dX12_goThrough_40 : decode cX12_goThrough 40 = .ok (.iconst (-1), 1) := by decide +kernel
theorem dX12_goThrough_41 : decode cX12_goThrough 41 = .ok (.istore 6, 2) := by decide +kernel
theorem dX12_goThrough_43 : decode cX12_goThrough 43 = .ok (.iconst 0, 1) := by decide +kernel
theorem dX12_goThrough_44 : decode cX12_goThrough 44 = .ok (.istore 7, 2) := by decide +kernel
theorem dX12_goThrough_46 : decode cX12_goThrough 46 = .ok (.iconst 0, 1) := by decide +kernel
theorem dX12_goThrough_47 : decode cX12_goThrough 47 = .ok (.istore 8, 2) := by decide +kernel
theorem dX12_goThrough_49 : decode cX12_goThrough 49 = .ok (.iload 8, 2) := by decide +kernel
theorem dX12_goThrough_51 : decode cX12_goThrough 51 = .ok (.aload_n 0, 1) := by decide +kernel
theorem dX12_goThrough_52 : decode cX12_goThrough 52 = .ok (.getfield 20, 3) := by decide +kernel
theorem dX12_goThrough_55 : decode cX12_goThrough 55 = .ok (.iconst 4, 1) := by decide +kernel
theorem dX12_goThrough_56 : decode cX12_goThrough 56 = .ok (.iaload, 1) := by decide +kernel
theorem dX12_goThrough_57 : decode cX12_goThrough 57 = .ok (.if_icmp .ge 63, 3) := by decide +kernel
theorem dX12_goThrough_60 : decode cX12_goThrough 60 = .ok (.iload_n 3, 1) := by decide +kernel
theorem dX12_goThrough_61 : decode cX12_goThrough 61 = .ok (.iload 8, 2) := by decide +kernel
theorem dX12_goThrough_63 : decode cX12_goThrough 63 = .ok (.invokestatic 237, 3) := by decide +kernel
theorem dX12_goThrough_66 : decode cX12_goThrough 66 = .ok (.ifCond .ne 48, 3) := by decide +kernel
theorem dX12_goThrough_69 : decode cX12_goThrough 69 = .ok (.aload_n 0, 1) := by decide +kernel
theorem dX12_goThrough_70 : decode cX12_goThrough 70 = .ok (.iload_n 2, 1) := by decide +kernel
theorem dX12_goThrough_71 : decode cX12_goThrough 71 = .ok (.aload_n 0, 1) := by decide +kernel
theorem dX12_goThrough_72 : decode cX12_goThrough 72 = .ok (.iload 8, 2) := by decide +kernel
theorem dX12_goThrough_74 : decode cX12_goThrough 74 = .ok (.iconst 1, 1) := by decide +kernel
theorem dX12_goThrough_75 : decode cX12_goThrough 75 = .ok (.invokevirtual 266, 3) := by decide +kernel
theorem dX12_goThrough_78 : decode cX12_goThrough 78 = .ok (.invokevirtual 327, 3) := by decide +kernel
theorem dX12_goThrough_81 : decode cX12_goThrough 81 = .ok (.ifCond .eq 33, 3) := by decide +kernel
theorem dX12_goThrough_84 : decode cX12_goThrough 84 = .ok (.aload_n 0, 1) := by decide +kernel
theorem dX12_goThrough_85 : decode cX12_goThrough 85 = .ok (.iload 8, 2) := by decide +kernel
theorem dX12_goThrough_87 : decode cX12_goThrough 87 = .ok (.iload 5, 2) := by decide +kernel
theorem dX12_goThrough_89 : decode cX12_goThrough 89 = .ok (.invokevirtual 301, 3) := by decide +kernel
theorem dX12_goThrough_92 : decode cX12_goThrough 92 = .ok (.iload 7, 2) := by decide +kernel
theorem dX12_goThrough_94 : decode cX12_goThrough 94 = .ok (.if_icmp .gt 6, 3) := by decide +kernel
theorem dX12_goThrough_97 : decode cX12_goThrough 97 = .ok (.goto 17, 3) := by decide +kernel
theorem dX12_goThrough_100 : decode cX12_goThrough 100 = .ok (.iload 8, 2) := by decide +kernel
theorem dX12_goThrough_102 : decode cX12_goThrough 102 = .ok (.istore 6, 2) := by decide +kernel
theorem dX12_goThrough_104 : decode cX12_goThrough 104 = .ok (.aload_n 0, 1) := by decide +kernel
theorem dX12_goThrough_105 : decode cX12_goThrough 105 = .ok (.iload 8, 2) := by decide +kernel
theorem dX12_goThrough_107 : decode cX12_goThrough 107 = .ok (.iload 5, 2) := by decide +kernel
theorem dX12_goThrough_109 : decode cX12_goThrough 109 = .ok (.invokevirtual 301, 3) := by decide +kernel
theorem dX12_goThrough_112 : decode cX12_goThrough 112 = .ok (.istore 7, 2) := by decide +kernel
theorem dX12_goThrough_114 : decode cX12_goThrough 114 = .ok (.iinc 8 1, 3) := by decide +kernel
theorem dX12_goThrough_117 : decode cX12_goThrough 117 = .ok (.goto (-68), 3) := by decide +kernel
theorem dX12_goThrough_120 : decode cX12_goThrough 120 = .ok (.iload 6, 2) := by decide +kernel
theorem dX12_goThrough_122 : decode cX12_goThrough 122 = .ok (.ifCond .ge 6, 3) := by decide +kernel
theorem dX12_goThrough_125 : decode cX12_goThrough 125 = .ok (.goto 41, 3) := by decide +kernel
theorem dX12_goThrough_128 : decode cX12_goThrough 128 = .ok (.aload_n 0, 1) := by decide +kernel
theorem dX12_goThrough_129 : decode cX12_goThrough 129 = .ok (.iload 6, 2) := by decide +kernel
theorem dX12_goThrough_131 : decode cX12_goThrough 131 = .ok (.iconst 1, 1) := by decide +kernel
theorem dX12_goThrough_132 : decode cX12_goThrough 132 = .ok (.invokevirtual 266, 3) := by decide +kernel
theorem dX12_goThrough_135 : decode cX12_goThrough 135 = .ok (.istore_n 2, 1) := by decide +kernel
theorem dX12_goThrough_136 : decode cX12_goThrough 136 = .ok (.iload_n 3, 1) := by decide +kernel
theorem dX12_goThrough_137 : decode cX12_goThrough 137 = .ok (.iconst 1, 1) := by decide +kernel
theorem dX12_goThrough_138 : decode cX12_goThrough 138 = .ok (.iload 6, 2) := by decide +kernel
theorem dX12_goThrough_140 : decode cX12_goThrough 140 = .ok (.ishl, 1) := by decide +kernel
theorem dX12_goThrough_141 : decode cX12_goThrough 141 = .ok (.ior, 1) := by decide +kernel
theorem dX12_goThrough_142 : decode cX12_goThrough 142 = .ok (.istore_n 3, 1) := by decide +kernel
theorem dX12_goThrough_143 : decode cX12_goThrough 143 = .ok (.aload_n 0, 1) := by decide +kernel
theorem dX12_goThrough_144 : decode cX12_goThrough 144 = .ok (.iload 6, 2) := by decide +kernel
theorem dX12_goThrough_146 : decode cX12_goThrough 146 = .ok (.iload 5, 2) := by decide +kernel
theorem dX12_goThrough_148 : decode cX12_goThrough 148 = .ok (.invokevirtual 417, 3) := by decide +kernel
theorem dX12_goThrough_151 : decode cX12_goThrough 151 = .ok (.ifCond .ne 6, 3) := by decide +kernel
theorem dX12_goThrough_154 : decode cX12_goThrough 154 = .ok (.goto 12, 3) := by decide +kernel
theorem dX12_goThrough_157 : decode cX12_goThrough 157 = .ok (.aload_n 0, 1) := by decide +kernel
theorem dX12_goThrough_158 : decode cX12_goThrough 158 = .ok (.iload 6, 2) := by decide +kernel
theorem dX12_goThrough_160 : decode cX12_goThrough 160 = .ok (.putfield 414, 3) := by decide +kernel
theorem dX12_goThrough_163 : decode cX12_goThrough 163 = .ok (.iload 4, 2) := by decide +kernel
theorem dX12_goThrough_165 : decode cX12_goThrough 165 = .ok (.ireturn, 1) := by decide +kernel
theorem dX12_goThrough_166 : decode cX12_goThrough 166 = .ok (.iinc 4 1, 3) := by decide +kernel
theorem dX12_goThrough_169 : decode cX12_goThrough 169 = .ok (.goto (-146), 3) := by decide +kernel
theorem dX12_goThrough_172 : decode cX12_goThrough 172 = .ok (.iconst 0, 1) := by decide +kernel
theorem dX12_goThrough_173 : decode cX12_goThrough 173 = .ok (.ireturn, 1) := by decide +kernel
theorem dX12_lifeWhy_0 : decode cX12_lifeWhy 0 = .ok (.aload_n 0, 1) := by decide +kernel
theorem dX12_lifeWhy_1 : decode cX12_lifeWhy 1 = .ok (.aload_n 0, 1) := by decide +kernel
theorem dX12_lifeWhy_2 : decode cX12_lifeWhy 2 = .ok (.getfield 181, 3) := by decide +kernel
theorem dX12_lifeWhy_5 : decode cX12_lifeWhy 5 = .ok (.iload_n 1, 1) := by decide +kernel
theorem dX12_lifeWhy_6 : decode cX12_lifeWhy 6 = .ok (.iconst 0, 1) := by decide +kernel
theorem dX12_lifeWhy_7 : decode cX12_lifeWhy 7 = .ok (.ldc_w 420, 3) := by decide +kernel
theorem dX12_lifeWhy_10 : decode cX12_lifeWhy 10 = .ok (.invokestatic 150, 3) := by decide +kernel
theorem dX12_lifeWhy_13 : decode cX12_lifeWhy 13 = .ok (.ifCond .eq 11, 3) := by decide +kernel
theorem dX12_lifeWhy_16 : decode cX12_lifeWhy 16 = .ok (.iload_n 2, 1) := by decide +kernel
theorem dX12_lifeWhy_17 : decode cX12_lifeWhy 17 = .ok (.ifCond .eq 7, 3) := by decide +kernel
theorem dX12_lifeWhy_20 : decode cX12_lifeWhy 20 = .ok (.iconst 1, 1) := by decide +kernel
theorem dX12_lifeWhy_21 : decode cX12_lifeWhy 21 = .ok (.goto 4, 3) := by decide +kernel
theorem dX12_lifeWhy_24 : decode cX12_lifeWhy 24 = .ok (.iconst 0, 1) := by decide +kernel
theorem dX12_lifeWhy_25 : decode cX12_lifeWhy 25 = .ok (.invokevirtual 334, 3) := by decide +kernel
theorem dX12_lifeWhy_28 : decode cX12_lifeWhy 28 = .ok (.ireturn, 1) := by decide +kernel
theorem dX12_life_0 : decode cX12_life 0 = .ok (.aload_n 0, 1) := by decide +kernel
theorem dX12_life_1 : decode cX12_life 1 = .ok (.invokevirtual 168, 3) := by decide +kernel
theorem dX12_life_4 : decode cX12_life 4 = .ok (.aload_n 0, 1) := by decide +kernel
theorem dX12_life_5 : decode cX12_life 5 = .ok (.iload_n 1, 1) := by decide +kernel
theorem dX12_life_6 : decode cX12_life 6 = .ok (.iload_n 2, 1) := by decide +kernel
theorem dX12_life_7 : decode cX12_life 7 = .ok (.iconst 0, 1) := by decide +kernel
theorem dX12_life_8 : decode cX12_life 8 = .ok (.bipush 20, 2) := by decide +kernel
theorem dX12_life_10 : decode cX12_life 10 = .ok (.invokestatic 150, 3) := by decide +kernel
theorem dX12_life_13 : decode cX12_life 13 = .ok (.invokevirtual 421, 3) := by decide +kernel
theorem dX12_life_16 : decode cX12_life 16 = .ok (.istore_n 3, 1) := by decide +kernel
theorem dX12_life_17 : decode cX12_life 17 = .ok (.iload_n 3, 1) := by decide +kernel
theorem dX12_life_18 : decode cX12_life 18 = .ok (.ifCond .eq 9, 3) := by decide +kernel
theorem dX12_life_21 : decode cX12_life 21 = .ok (.aload_n 0, 1) := by decide +kernel
theorem dX12_life_22 : decode cX12_life 22 = .ok (.iload_n 3, 1) := by decide +kernel
theorem dX12_life_23 : decode cX12_life 23 = .ok (.invokevirtual 171, 3) := by decide +kernel
theorem dX12_life_26 : decode cX12_life 26 = .ok (.ireturn, 1) := by decide +kernel
theorem dX12_life_27 : decode cX12_life 27 = .ok (.aload_n 0, 1) := by decide +kernel
theorem dX12_life_28 : decode cX12_life 28 = .ok (.iload_n 1, 1) := by decide +kernel
theorem dX12_life_29 : decode cX12_life 29 = .ok (.putfield 410, 3) := by decide +kernel
theorem dX12_life_32 : decode cX12_life 32 = .ok (.aload_n 0, 1) := by decide +kernel
theorem dX12_life_33 : decode cX12_life 33 = .ok (.iload_n 2, 1) := by decide +kernel
theorem dX12_life_34 : decode cX12_life 34 = .ok (.invokevirtual 425, 3) := by decide +kernel
theorem dX12_life_37 : decode cX12_life 37 = .ok (.ireturn, 1) := by decide +kernel
theorem dX12_lifeBy_0 : decode cX12_lifeBy 0 = .ok (.aload_n 0, 1) := by decide +kernel
theorem dX12_lifeBy_1 : decode cX12_lifeBy 1 = .ok (.invokevirtual 168, 3) := by decide +kernel
theorem dX12_lifeBy_4 : decode cX12_lifeBy 4 = .ok (.aload_n 0, 1) := by decide +kernel
theorem dX12_lifeBy_5 : decode cX12_lifeBy 5 = .ok (.iload_n 1, 1) := by decide +kernel
theorem dX12_lifeBy_6 : decode cX12_lifeBy 6 = .ok (.iload_n 2, 1) := by decide +kernel
theorem dX12_lifeBy_7 : decode cX12_lifeBy 7 = .ok (.iconst 0, 1) := by decide +kernel
theorem dX12_lifeBy_8 : decode cX12_lifeBy 8 = .ok (.bipush 20, 2) := by decide +kernel
theorem dX12_lifeBy_10 : decode cX12_lifeBy 10 = .ok (.invokestatic 150, 3) := by decide +kernel
theorem dX12_lifeBy_13 : decode cX12_lifeBy 13 = .ok (.invokevirtual 421, 3) := by decide +kernel
theorem dX12_lifeBy_16 : decode cX12_lifeBy 16 = .ok (.istore_n 3, 1) := by decide +kernel
theorem dX12_lifeBy_17 : decode cX12_lifeBy 17 = .ok (.iload_n 3, 1) := by decide +kernel
theorem dX12_lifeBy_18 : decode cX12_lifeBy 18 = .ok (.ifCond .eq 9, 3) := by decide +kernel
theorem dX12_lifeBy_21 : decode cX12_lifeBy 21 = .ok (.aload_n 0, 1) := by decide +kernel
theorem dX12_lifeBy_22 : decode cX12_lifeBy 22 = .ok (.iload_n 3, 1) := by decide +kernel
theorem dX12_lifeBy_23 : decode cX12_lifeBy 23 = .ok (.invokevirtual 171, 3) := by decide +kernel
theorem dX12_lifeBy_26 : decode cX12_lifeBy 26 = .ok (.ireturn, 1) := by decide +kernel
theorem dX12_lifeBy_27 : decode cX12_lifeBy 27 = .ok (.aload_n 0, 1) := by decide +kernel
theorem dX12_lifeBy_28 : decode cX12_lifeBy 28 = .ok (.iload_n 1, 1) := by decide +kernel
theorem dX12_lifeBy_29 : decode cX12_lifeBy 29 = .ok (.putfield 410, 3) := by decide +kernel
theorem dX12_lifeBy_32 : decode cX12_lifeBy 32 = .ok (.aload_n 0, 1) := by decide +kernel
theorem dX12_lifeBy_33 : decode cX12_lifeBy 33 = .ok (.iload_n 2, 1) := by decide +kernel
theorem dX12_lifeBy_34 : decode cX12_lifeBy 34 = .ok (.invokevirtual 425, 3) := by decide +kernel
theorem dX12_lifeBy_37 : decode cX12_lifeBy 37 = .ok (.pop, 1) := by decide +kernel
theorem dX12_lifeBy_38 : decode cX12_lifeBy 38 = .ok (.aload_n 0, 1) := by decide +kernel
theorem dX12_lifeBy_39 : decode cX12_lifeBy 39 = .ok (.getfield 414, 3) := by decide +kernel
theorem dX12_lifeBy_42 : decode cX12_lifeBy 42 = .ok (.ireturn, 1) := by decide +kernel
theorem dX12_lives_0 : decode cX12_lives 0 = .ok (.aload_n 0, 1) := by decide +kernel
theorem dX12_lives_1 : decode cX12_lives 1 = .ok (.invokevirtual 168, 3) := by decide +kernel
theorem dX12_lives_4 : decode cX12_lives 4 = .ok (.aload_n 0, 1) := by decide +kernel
theorem dX12_lives_5 : decode cX12_lives 5 = .ok (.iload_n 1, 1) := by decide +kernel
theorem dX12_lives_6 : decode cX12_lives 6 = .ok (.iload_n 2, 1) := by decide +kernel
theorem dX12_lives_7 : decode cX12_lives 7 = .ok (.iconst 1, 1) := by decide +kernel
theorem dX12_lives_8 : decode cX12_lives 8 = .ok (.bipush 30, 2) := by decide +kernel
theorem dX12_lives_10 : decode cX12_lives 10 = .ok (.invokestatic 150, 3) := by decide +kernel
theorem dX12_lives_13 : decode cX12_lives 13 = .ok (.invokevirtual 421, 3) := by decide +kernel
theorem dX12_lives_16 : decode cX12_lives 16 = .ok (.istore_n 3, 1) := by decide +kernel
theorem dX12_lives_17 : decode cX12_lives 17 = .ok (.iload_n 3, 1) := by decide +kernel
theorem dX12_lives_18 : decode cX12_lives 18 = .ok (.ifCond .eq 9, 3) := by decide +kernel
theorem dX12_lives_21 : decode cX12_lives 21 = .ok (.aload_n 0, 1) := by decide +kernel
theorem dX12_lives_22 : decode cX12_lives 22 = .ok (.iload_n 3, 1) := by decide +kernel
theorem dX12_lives_23 : decode cX12_lives 23 = .ok (.invokevirtual 171, 3) := by decide +kernel
theorem dX12_lives_26 : decode cX12_lives 26 = .ok (.ireturn, 1) := by decide +kernel
theorem dX12_lives_27 : decode cX12_lives 27 = .ok (.aload_n 0, 1) := by decide +kernel
theorem dX12_lives_28 : decode cX12_lives 28 = .ok (.iload_n 1, 1) := by decide +kernel
theorem dX12_lives_29 : decode cX12_lives 29 = .ok (.putfield 410, 3) := by decide +kernel
theorem dX12_lives_32 : decode cX12_lives 32 = .ok (.iconst 0, 1) := by decide +kernel
theorem dX12_lives_33 : decode cX12_lives 33 = .ok (.istore 4, 2) := by decide +kernel
theorem dX12_lives_35 : decode cX12_lives 35 = .ok (.iconst 0, 1) := by decide +kernel
theorem dX12_lives_36 : decode cX12_lives 36 = .ok (.istore 5, 2) := by decide +kernel
theorem dX12_lives_38 : decode cX12_lives 38 = .ok (.iload 5, 2) := by decide +kernel
theorem dX12_lives_40 : decode cX12_lives 40 = .ok (.iload_n 2, 1) := by decide +kernel
theorem dX12_lives_41 : decode cX12_lives 41 = .ok (.if_icmp .ge 27, 3) := by decide +kernel
theorem dX12_lives_44 : decode cX12_lives 44 = .ok (.iload 4, 2) := by decide +kernel
theorem dX12_lives_46 : decode cX12_lives 46 = .ok (.aload_n 0, 1) := by decide +kernel
theorem dX12_lives_47 : decode cX12_lives 47 = .ok (.iconst 3, 1) := by decide +kernel
theorem dX12_lives_48 : decode cX12_lives 48 = .ok (.invokevirtual 425, 3) := by decide +kernel
theorem dX12_lives_51 : decode cX12_lives 51 = .ok (.ifCond .le 7, 3) := by decide +kernel
theorem dX12_lives_54 : decode cX12_lives 54 = .ok (.iconst 1, 1) := by decide +kernel
theorem dX12_lives_55 : decode cX12_lives 55 = .ok (.goto 4, 3) := by decide +kernel
theorem dX12_lives_58 : decode cX12_lives 58 = .ok (.iconst 0, 1) := by decide +kernel
theorem dX12_lives_59 : decode cX12_lives 59 = .ok (.iadd, 1) := by decide +kernel
theorem dX12_lives_60 : decode cX12_lives 60 = .ok (.istore 4, 2) := by decide +kernel
theorem dX12_lives_62 : decode cX12_lives 62 = .ok (.iinc 5 1, 3) := by decide +kernel
theorem dX12_lives_65 : decode cX12_lives 65 = .ok (.goto (-27), 3) := by decide +kernel
theorem dX12_lives_68 : decode cX12_lives 68 = .ok (.iload 4, 2) := by decide +kernel
theorem dX12_lives_70 : decode cX12_lives 70 = .ok (.ireturn, 1) := by decide +kernel
theorem dX12_note_0 : decode cX12_note 0 = .ok (.aload_n 0, 1) := by decide +kernel
theorem dX12_note_1 : decode cX12_note 1 = .ok (.getfield 184, 3) := by decide +kernel
theorem dX12_note_4 : decode cX12_note 4 = .ok (.bipush 16, 2) := by decide +kernel
theorem dX12_note_6 : decode cX12_note 6 = .ok (.if_icmp .ne 42, 3) := by decide +kernel
theorem dX12_note_9 : decode cX12_note 9 = .ok (.iconst 0, 1) := by decide +kernel
theorem dX12_note_10 : decode cX12_note 10 = .ok (.istore_n 1, 1) := by decide +kernel
theorem dX12_note_11 : decode cX12_note 11 = .ok (.iload_n 1, 1) := by decide +kernel
theorem dX12_note_12 : decode cX12_note 12 = .ok (.bipush 90, 2) := by decide +kernel
theorem dX12_note_14 : decode cX12_note 14 = .ok (.if_icmp .ge 24, 3) := by decide +kernel
theorem dX12_note_17 : decode cX12_note 17 = .ok (.aload_n 0, 1) := by decide +kernel
theorem dX12_note_18 : decode cX12_note 18 = .ok (.getfield 29, 3) := by decide +kernel
theorem dX12_note_21 : decode cX12_note 21 = .ok (.iload_n 1, 1) := by decide +kernel
theorem dX12_note_22 : decode cX12_note 22 = .ok (.aload_n 0, 1) := by decide +kernel
theorem dX12_note_23 : decode cX12_note 23 = .ok (.getfield 29, 3) := by decide +kernel
theorem dX12_note_26 : decode cX12_note 26 = .ok (.iload_n 1, 1) := by decide +kernel
theorem dX12_note_27 : decode cX12_note 27 = .ok (.bipush 6, 2) := by decide +kernel
theorem dX12_note_29 : decode cX12_note 29 = .ok (.iadd, 1) := by decide +kernel
theorem dX12_note_30 : decode cX12_note 30 = .ok (.iaload, 1) := by decide +kernel
theorem dX12_note_31 : decode cX12_note 31 = .ok (.iastore, 1) := by decide +kernel
theorem dX12_note_32 : decode cX12_note 32 = .ok (.iinc 1 1, 3) := by decide +kernel
theorem dX12_note_35 : decode cX12_note 35 = .ok (.goto (-24), 3) := by decide +kernel
theorem dX12_note_38 : decode cX12_note 38 = .ok (.aload_n 0, 1) := by decide +kernel
theorem dX12_note_39 : decode cX12_note 39 = .ok (.dup, 1) := by decide +kernel
theorem dX12_note_40 : decode cX12_note 40 = .ok (.getfield 184, 3) := by decide +kernel
theorem dX12_note_43 : decode cX12_note 43 = .ok (.iconst 1, 1) := by decide +kernel
theorem dX12_note_44 : decode cX12_note 44 = .ok (.isub, 1) := by decide +kernel
theorem dX12_note_45 : decode cX12_note 45 = .ok (.putfield 184, 3) := by decide +kernel
theorem dX12_note_48 : decode cX12_note 48 = .ok (.aload_n 0, 1) := by decide +kernel
theorem dX12_note_49 : decode cX12_note 49 = .ok (.getfield 26, 3) := by decide +kernel
theorem dX12_note_52 : decode cX12_note 52 = .ok (.iconst 0, 1) := by decide +kernel
theorem dX12_note_53 : decode cX12_note 53 = .ok (.aload_n 0, 1) := by decide +kernel
theorem dX12_note_54 : decode cX12_note 54 = .ok (.getfield 29, 3) := by decide +kernel
theorem dX12_note_57 : decode cX12_note 57 = .ok (.bipush 6, 2) := by decide +kernel
theorem dX12_note_59 : decode cX12_note 59 = .ok (.aload_n 0, 1) := by decide +kernel
theorem dX12_note_60 : decode cX12_note 60 = .ok (.getfield 184, 3) := by decide +kernel
theorem dX12_note_63 : decode cX12_note 63 = .ok (.imul, 1) := by decide +kernel
theorem dX12_note_64 : decode cX12_note 64 = .ok (.bipush 6, 2) := by decide +kernel
theorem dX12_note_66 : decode cX12_note 66 = .ok (.invokestatic 177, 3) := by decide +kernel
theorem dX12_note_69 : decode cX12_note 69 = .ok (.aload_n 0, 1) := by decide +kernel
theorem dX12_note_70 : decode cX12_note 70 = .ok (.dup, 1) := by decide +kernel
theorem dX12_note_71 : decode cX12_note 71 = .ok (.getfield 184, 3) := by decide +kernel
theorem dX12_note_74 : decode cX12_note 74 = .ok (.iconst 1, 1) := by decide +kernel
theorem dX12_note_75 : decode cX12_note 75 = .ok (.iadd, 1) := by decide +kernel
theorem dX12_note_76 : decode cX12_note 76 = .ok (.putfield 184, 3) := by decide +kernel
theorem dX12_note_79 : decode cX12_note 79 = .ok (.return_, 1) := by decide +kernel
theorem dX12_sail_0 : decode cX12_sail 0 = .ok (.aload_n 0, 1) := by decide +kernel
theorem dX12_sail_1 : decode cX12_sail 1 = .ok (.invokevirtual 168, 3) := by decide +kernel
theorem dX12_sail_4 : decode cX12_sail 4 = .ok (.aload_n 0, 1) := by decide +kernel
theorem dX12_sail_5 : decode cX12_sail 5 = .ok (.iload_n 1, 1) := by decide +kernel
theorem dX12_sail_6 : decode cX12_sail 6 = .ok (.invokevirtual 269, 3) := by decide +kernel
theorem dX12_sail_9 : decode cX12_sail 9 = .ok (.ifCond .ne 9, 3) := by decide +kernel
theorem dX12_sail_12 : decode cX12_sail 12 = .ok (.aload_n 0, 1) := by decide +kernel
theorem dX12_sail_13 : decode cX12_sail 13 = .ok (.iconst 1, 1) := by decide +kernel
theorem dX12_sail_14 : decode cX12_sail 14 = .ok (.invokevirtual 171, 3) := by decide +kernel
theorem dX12_sail_17 : decode cX12_sail 17 = .ok (.ireturn, 1) := by decide +kernel
theorem dX12_sail_18 : decode cX12_sail 18 = .ok (.aload_n 0, 1) := by decide +kernel
theorem dX12_sail_19 : decode cX12_sail 19 = .ok (.getfield 26, 3) := by decide +kernel
theorem dX12_sail_22 : decode cX12_sail 22 = .ok (.iconst 2, 1) := by decide +kernel
theorem dX12_sail_23 : decode cX12_sail 23 = .ok (.iaload, 1) := by decide +kernel
theorem dX12_sail_24 : decode cX12_sail 24 = .ok (.ifCond .gt 17, 3) := by decide +kernel
theorem dX12_sail_27 : decode cX12_sail 27 = .ok (.aload_n 0, 1) := by decide +kernel
theorem dX12_sail_28 : decode cX12_sail 28 = .ok (.aload_n 0, 1) := by decide +kernel
theorem dX12_sail_29 : decode cX12_sail 29 = .ok (.getfield 26, 3) := by decide +kernel
theorem dX12_sail_32 : decode cX12_sail 32 = .ok (.iconst 1, 1) := by decide +kernel
theorem dX12_sail_33 : decode cX12_sail 33 = .ok (.iaload, 1) := by decide +kernel
theorem dX12_sail_34 : decode cX12_sail 34 = .ok (.iload_n 1, 1) := by decide +kernel
theorem dX12_sail_35 : decode cX12_sail 35 = .ok (.invokevirtual 327, 3) := by decide +kernel
theorem dX12_sail_38 : decode cX12_sail 38 = .ok (.ifCond .ne 9, 3) := by decide +kernel
theorem dX12_sail_41 : decode cX12_sail 41 = .ok (.aload_n 0, 1) := by decide +kernel
theorem dX12_sail_42 : decode cX12_sail 42 = .ok (.iconst 5, 1) := by decide +kernel
theorem dX12_sail_43 : decode cX12_sail 43 = .ok (.invokevirtual 171, 3) := by decide +kernel
theorem dX12_sail_46 : decode cX12_sail 46 = .ok (.ireturn, 1) := by decide +kernel
theorem dX12_sail_47 : decode cX12_sail 47 = .ok (.aload_n 0, 1) := by decide +kernel
theorem dX12_sail_48 : decode cX12_sail 48 = .ok (.getfield 26, 3) := by decide +kernel
theorem dX12_sail_51 : decode cX12_sail 51 = .ok (.iconst 0, 1) := by decide +kernel
theorem dX12_sail_52 : decode cX12_sail 52 = .ok (.iaload, 1) := by decide +kernel
theorem dX12_sail_53 : decode cX12_sail 53 = .ok (.bipush 30, 2) := by decide +kernel
theorem dX12_sail_55 : decode cX12_sail 55 = .ok (.if_icmp .ne 9, 3) := by decide +kernel
theorem dX12_sail_58 : decode cX12_sail 58 = .ok (.aload_n 0, 1) := by decide +kernel
theorem dX12_sail_59 : decode cX12_sail 59 = .ok (.iconst 3, 1) := by decide +kernel
theorem dX12_sail_60 : decode cX12_sail 60 = .ok (.invokevirtual 171, 3) := by decide +kernel
theorem dX12_sail_63 : decode cX12_sail 63 = .ok (.ireturn, 1) := by decide +kernel
theorem dX12_sail_64 : decode cX12_sail 64 = .ok (.aload_n 0, 1) := by decide +kernel
theorem dX12_sail_65 : decode cX12_sail 65 = .ok (.invokevirtual 428, 3) := by decide +kernel
theorem dX12_sail_68 : decode cX12_sail 68 = .ok (.aload_n 0, 1) := by decide +kernel
theorem dX12_sail_69 : decode cX12_sail 69 = .ok (.getfield 26, 3) := by decide +kernel
theorem dX12_sail_72 : decode cX12_sail 72 = .ok (.iconst 0, 1) := by decide +kernel
theorem dX12_sail_73 : decode cX12_sail 73 = .ok (.dup2, 1) := by decide +kernel
theorem dX12_sail_74 : decode cX12_sail 74 = .ok (.iaload, 1) := by decide +kernel
theorem dX12_sail_75 : decode cX12_sail 75 = .ok (.iconst 1, 1) := by decide +kernel
theorem dX12_sail_76 : decode cX12_sail 76 = .ok (.iadd, 1) := by decide +kernel
theorem dX12_sail_77 : decode cX12_sail 77 = .ok (.iastore, 1) := by decide +kernel
theorem dX12_sail_78 : decode cX12_sail 78 = .ok (.aload_n 0, 1) := by decide +kernel
theorem dX12_sail_79 : decode cX12_sail 79 = .ok (.getfield 26, 3) := by decide +kernel
theorem dX12_sail_82 : decode cX12_sail 82 = .ok (.iconst 1, 1) := by decide +kernel
theorem dX12_sail_83 : decode cX12_sail 83 = .ok (.iload_n 1, 1) := by decide +kernel
theorem dX12_sail_84 : decode cX12_sail 84 = .ok (.iastore, 1) := by decide +kernel
theorem dX12_sail_85 : decode cX12_sail 85 = .ok (.aload_n 0, 1) := by decide +kernel
theorem dX12_sail_86 : decode cX12_sail 86 = .ok (.getfield 26, 3) := by decide +kernel
theorem dX12_sail_89 : decode cX12_sail 89 = .ok (.iconst 5, 1) := by decide +kernel
theorem dX12_sail_90 : decode cX12_sail 90 = .ok (.dup2, 1) := by decide +kernel
theorem dX12_sail_91 : decode cX12_sail 91 = .ok (.iaload, 1) := by decide +kernel
theorem dX12_sail_92 : decode cX12_sail 92 = .ok (.aload_n 0, 1) := by decide +kernel
theorem dX12_sail_93 : decode cX12_sail 93 = .ok (.iload_n 1, 1) := by decide +kernel
theorem dX12_sail_94 : decode cX12_sail 94 = .ok (.aload_n 0, 1) := by decide +kernel
theorem dX12_sail_95 : decode cX12_sail 95 = .ok (.getfield 26, 3) := by decide +kernel
theorem dX12_sail_98 : decode cX12_sail 98 = .ok (.iconst 0, 1) := by decide +kernel
theorem dX12_sail_99 : decode cX12_sail 99 = .ok (.iaload, 1) := by decide +kernel
theorem dX12_sail_100 : decode cX12_sail 100 = .ok (.invokevirtual 347, 3) := by decide +kernel
theorem dX12_sail_103 : decode cX12_sail 103 = .ok (.ior, 1) := by decide +kernel
theorem dX12_sail_104 : decode cX12_sail 104 = .ok (.iastore, 1) := by decide +kernel
theorem dX12_sail_105 : decode cX12_sail 105 = .ok (.aload_n 0, 1) := by decide +kernel
theorem dX12_sail_106 : decode cX12_sail 106 = .ok (.getfield 26, 3) := by decide +kernel
theorem dX12_sail_109 : decode cX12_sail 109 = .ok (.iconst 0, 1) := by decide +kernel
theorem dX12_sail_110 : decode cX12_sail 110 = .ok (.iaload, 1) := by decide +kernel
theorem dX12_sail_111 : decode cX12_sail 111 = .ok (.ireturn, 1) := by decide +kernel
theorem dX12_court_0 : decode cX12_court 0 = .ok (.aload_n 0, 1) := by decide +kernel
theorem dX12_court_1 : decode cX12_court 1 = .ok (.invokevirtual 168, 3) := by decide +kernel
theorem dX12_court_4 : decode cX12_court 4 = .ok (.aload_n 0, 1) := by decide +kernel
theorem dX12_court_5 : decode cX12_court 5 = .ok (.iload_n 1, 1) := by decide +kernel
theorem dX12_court_6 : decode cX12_court 6 = .ok (.invokevirtual 278, 3) := by decide +kernel
theorem dX12_court_9 : decode cX12_court 9 = .ok (.ifCond .ne 9, 3) := by decide +kernel
theorem dX12_court_12 : decode cX12_court 12 = .ok (.aload_n 0, 1) := by decide +kernel
theorem dX12_court_13 : decode cX12_court 13 = .ok (.iconst 1, 1) := by decide +kernel
theorem dX12_court_14 : decode cX12_court 14 = .ok (.invokevirtual 171, 3) := by decide +kernel
theorem dX12_court_17 : decode cX12_court 17 = .ok (.ireturn, 1) := by decide +kernel
theorem dX12_court_18 : decode cX12_court 18 = .ok (.aload_n 0, 1) := by decide +kernel
theorem dX12_court_19 : decode cX12_court 19 = .ok (.getfield 26, 3) := by decide +kernel
theorem dX12_court_22 : decode cX12_court 22 = .ok (.iconst 2, 1) := by decide +kernel
theorem dX12_court_23 : decode cX12_court 23 = .ok (.iaload, 1) := by decide +kernel
theorem dX12_court_24 : decode cX12_court 24 = .ok (.ifCond .gt 31, 3) := by decide +kernel
theorem dX12_court_27 : decode cX12_court 27 = .ok (.aload_n 0, 1) := by decide +kernel
theorem dX12_court_28 : decode cX12_court 28 = .ok (.iload_n 1, 1) := by decide +kernel
theorem dX12_court_29 : decode cX12_court 29 = .ok (.iconst 1, 1) := by decide +kernel
theorem dX12_court_30 : decode cX12_court 30 = .ok (.invokevirtual 266, 3) := by decide +kernel
theorem dX12_court_33 : decode cX12_court 33 = .ok (.aload_n 0, 1) := by decide +kernel
theorem dX12_court_34 : decode cX12_court 34 = .ok (.getfield 26, 3) := by decide +kernel
theorem dX12_court_37 : decode cX12_court 37 = .ok (.iconst 1, 1) := by decide +kernel
theorem dX12_court_38 : decode cX12_court 38 = .ok (.iaload, 1) := by decide +kernel
theorem dX12_court_39 : decode cX12_court 39 = .ok (.if_icmp .ne 16, 3) := by decide +kernel
theorem dX12_court_42 : decode cX12_court 42 = .ok (.aload_n 0, 1) := by decide +kernel
theorem dX12_court_43 : decode cX12_court 43 = .ok (.getfield 26, 3) := by decide +kernel
theorem dX12_court_46 : decode cX12_court 46 = .ok (.iconst 4, 1) := by decide +kernel
theorem dX12_court_47 : decode cX12_court 47 = .ok (.iaload, 1) := by decide +kernel
theorem dX12_court_48 : decode cX12_court 48 = .ok (.iload_n 1, 1) := by decide +kernel
theorem dX12_court_49 : decode cX12_court 49 = .ok (.invokestatic 237, 3) := by decide +kernel
theorem dX12_court_52 : decode cX12_court 52 = .ok (.ifCond .eq 9, 3) := by decide +kernel
theorem dX12_court_55 : decode cX12_court 55 = .ok (.aload_n 0, 1) := by decide +kernel
theorem dX12_court_56 : decode cX12_court 56 = .ok (.iconst 5, 1) := by decide +kernel
theorem dX12_court_57 : decode cX12_court 57 = .ok (.invokevirtual 171, 3) := by decide +kernel
theorem dX12_court_60 : decode cX12_court 60 = .ok (.ireturn, 1) := by decide +kernel
theorem dX12_court_61 : decode cX12_court 61 = .ok (.aload_n 0, 1) := by decide +kernel
theorem dX12_court_62 : decode cX12_court 62 = .ok (.invokevirtual 428, 3) := by decide +kernel
theorem dX12_court_65 : decode cX12_court 65 = .ok (.aload_n 0, 1) := by decide +kernel
theorem dX12_court_66 : decode cX12_court 66 = .ok (.aload_n 0, 1) := by decide +kernel
theorem dX12_court_67 : decode cX12_court 67 = .ok (.getfield 26, 3) := by decide +kernel
theorem dX12_court_70 : decode cX12_court 70 = .ok (.iconst 3, 1) := by decide +kernel
theorem dX12_court_71 : decode cX12_court 71 = .ok (.iaload, 1) := by decide +kernel
theorem dX12_court_72 : decode cX12_court 72 = .ok (.putfield 410, 3) := by decide +kernel
theorem dX12_court_75 : decode cX12_court 75 = .ok (.aload_n 0, 1) := by decide +kernel
theorem dX12_court_76 : decode cX12_court 76 = .ok (.iload_n 1, 1) := by decide +kernel
theorem dX12_court_77 : decode cX12_court 77 = .ok (.aload_n 0, 1) := by decide +kernel
theorem dX12_court_78 : decode cX12_court 78 = .ok (.getfield 26, 3) := by decide +kernel
theorem dX12_court_81 : decode cX12_court 81 = .ok (.iconst 0, 1) := by decide +kernel
theorem dX12_court_82 : decode cX12_court 82 = .ok (.iaload, 1) := by decide +kernel
theorem dX12_court_83 : decode cX12_court 83 = .ok (.invokevirtual 417, 3) := by decide +kernel
theorem dX12_court_86 : decode cX12_court 86 = .ok (.istore_n 2, 1) := by decide +kernel
theorem dX12_court_87 : decode cX12_court 87 = .ok (.aload_n 0, 1) := by decide +kernel
theorem dX12_court_88 : decode cX12_court 88 = .ok (.getfield 26, 3) := by decide +kernel
theorem dX12_court_91 : decode cX12_court 91 = .ok (.iconst 3, 1) := by decide +kernel
theorem dX12_court_92 : decode cX12_court 92 = .ok (.aload_n 0, 1) := by decide +kernel
theorem dX12_court_93 : decode cX12_court 93 = .ok (.getfield 410, 3) := by decide +kernel
theorem dX12_court_96 : decode cX12_court 96 = .ok (.iastore, 1) := by decide +kernel
theorem dX12_court_97 : decode cX12_court 97 = .ok (.aload_n 0, 1) := by decide +kernel
theorem dX12_court_98 : decode cX12_court 98 = .ok (.getfield 26, 3) := by decide +kernel
theorem dX12_court_101 : decode cX12_court 101 = .ok (.iconst 4, 1) := by decide +kernel
theorem dX12_court_102 : decode cX12_court 102 = .ok (.dup2, 1) := by decide +kernel
theorem dX12_court_103 : decode cX12_court 103 = .ok (.iaload, 1) := by decide +kernel
theorem dX12_court_104 : decode cX12_court 104 = .ok (.iconst 1, 1) := by decide +kernel
theorem dX12_court_105 : decode cX12_court 105 = .ok (.iload_n 1, 1) := by decide +kernel
theorem dX12_court_106 : decode cX12_court 106 = .ok (.ishl, 1) := by decide +kernel
theorem dX12_court_107 : decode cX12_court 107 = .ok (.ior, 1) := by decide +kernel
theorem dX12_court_108 : decode cX12_court 108 = .ok (.iastore, 1) := by decide +kernel
theorem dX12_court_109 : decode cX12_court 109 = .ok (.aload_n 0, 1) := by decide +kernel
theorem dX12_court_110 : decode cX12_court 110 = .ok (.getfield 26, 3) := by decide +kernel
theorem dX12_court_113 : decode cX12_court 113 = .ok (.iconst 2, 1) := by decide +kernel
theorem dX12_court_114 : decode cX12_court 114 = .ok (.iload_n 2, 1) := by decide +kernel
theorem dX12_court_115 : decode cX12_court 115 = .ok (.ifCond .eq 9, 3) := by decide +kernel
theorem dX12_court_118 : decode cX12_court 118 = .ok (.iload_n 1, 1) := by decide +kernel
theorem dX12_court_119 : decode cX12_court 119 = .ok (.iconst 1, 1) := by decide +kernel
theorem dX12_court_120 : decode cX12_court 120 = .ok (.iadd, 1) := by decide +kernel
theorem dX12_court_121 : decode cX12_court 121 = .ok (.goto 4, 3) := by decide +kernel
theorem dX12_court_124 : decode cX12_court 124 = .ok (.iconst 0, 1) := by decide +kernel
theorem dX12_court_125 : decode cX12_court 125 = .ok (.iastore, 1) := by decide +kernel
theorem dX12_court_126 : decode cX12_court 126 = .ok (.iload_n 2, 1) := by decide +kernel
theorem dX12_court_127 : decode cX12_court 127 = .ok (.ifCond .eq 7, 3) := by decide +kernel
theorem dX12_court_130 : decode cX12_court 130 = .ok (.iconst 1, 1) := by decide +kernel
theorem dX12_court_131 : decode cX12_court 131 = .ok (.goto 4, 3) := by decide +kernel
theorem dX12_court_134 : decode cX12_court 134 = .ok (.iconst 0, 1) := by decide +kernel
theorem dX12_court_135 : decode cX12_court 135 = .ok (.ireturn, 1) := by decide +kernel
theorem dX12_seed_0 : decode cX12_seed 0 = .ok (.aload_n 0, 1) := by decide +kernel
theorem dX12_seed_1 : decode cX12_seed 1 = .ok (.invokevirtual 168, 3) := by decide +kernel
theorem dX12_seed_4 : decode cX12_seed 4 = .ok (.aload_n 0, 1) := by decide +kernel
theorem dX12_seed_5 : decode cX12_seed 5 = .ok (.getfield 181, 3) := by decide +kernel
theorem dX12_seed_8 : decode cX12_seed 8 = .ok (.ifCond .ne 9, 3) := by decide +kernel
theorem dX12_seed_11 : decode cX12_seed 11 = .ok (.aload_n 0, 1) := by decide +kernel
theorem dX12_seed_12 : decode cX12_seed 12 = .ok (.iconst 1, 1) := by decide +kernel
theorem dX12_seed_13 : decode cX12_seed 13 = .ok (.invokevirtual 431, 3) := by decide +kernel
theorem dX12_seed_16 : decode cX12_seed 16 = .ok (.ireturn, 1) := by decide +kernel
theorem dX12_seed_17 : decode cX12_seed 17 = .ok (.iload_n 1, 1) := by decide +kernel
theorem dX12_seed_18 : decode cX12_seed 18 = .ok (.iconst 0, 1) := by decide +kernel
theorem dX12_seed_19 : decode cX12_seed 19 = .ok (.ldc_w 420, 3) := by decide +kernel
theorem dX12_seed_22 : decode cX12_seed 22 = .ok (.invokestatic 150, 3) := by decide +kernel
theorem dX12_seed_25 : decode cX12_seed 25 = .ok (.ifCond .ne 9, 3) := by decide +kernel
theorem dX12_seed_28 : decode cX12_seed 28 = .ok (.aload_n 0, 1) := by decide +kernel
theorem dX12_seed_29 : decode cX12_seed 29 = .ok (.iconst 2, 1) := by decide +kernel
theorem dX12_seed_30 : decode cX12_seed 30 = .ok (.invokevirtual 431, 3) := by decide +kernel
theorem dX12_seed_33 : decode cX12_seed 33 = .ok (.ireturn, 1) := by decide +kernel
theorem dX12_seed_34 : decode cX12_seed 34 = .ok (.aload_n 0, 1) := by decide +kernel
theorem dX12_seed_35 : decode cX12_seed 35 = .ok (.getfield 26, 3) := by decide +kernel
theorem dX12_seed_38 : decode cX12_seed 38 = .ok (.iconst 3, 1) := by decide +kernel
theorem dX12_seed_39 : decode cX12_seed 39 = .ok (.iload_n 1, 1) := by decide +kernel
theorem dX12_seed_40 : decode cX12_seed 40 = .ok (.iastore, 1) := by decide +kernel
theorem dX12_seed_41 : decode cX12_seed 41 = .ok (.iconst 1, 1) := by decide +kernel
theorem dX12_seed_42 : decode cX12_seed 42 = .ok (.ireturn, 1) := by decide +kernel
theorem dX12_undo_0 : decode cX12_undo 0 = .ok (.aload_n 0, 1) := by decide +kernel
theorem dX12_undo_1 : decode cX12_undo 1 = .ok (.invokevirtual 168, 3) := by decide +kernel
theorem dX12_undo_4 : decode cX12_undo 4 = .ok (.aload_n 0, 1) := by decide +kernel
theorem dX12_undo_5 : decode cX12_undo 5 = .ok (.getfield 184, 3) := by decide +kernel
theorem dX12_undo_8 : decode cX12_undo 8 = .ok (.ifCond .ne 10, 3) := by decide +kernel
theorem dX12_undo_11 : decode cX12_undo 11 = .ok (.aload_n 0, 1) := by decide +kernel
theorem dX12_undo_12 : decode cX12_undo 12 = .ok (.bipush 6, 2) := by decide +kernel
theorem dX12_undo_14 : decode cX12_undo 14 = .ok (.invokevirtual 431, 3) := by decide +kernel
theorem dX12_undo_17 : decode cX12_undo 17 = .ok (.ireturn, 1) := by decide +kernel
theorem dX12_undo_18 : decode cX12_undo 18 = .ok (.aload_n 0, 1) := by decide +kernel
theorem dX12_undo_19 : decode cX12_undo 19 = .ok (.dup, 1) := by decide +kernel
theorem dX12_undo_20 : decode cX12_undo 20 = .ok (.getfield 184, 3) := by decide +kernel
theorem dX12_undo_23 : decode cX12_undo 23 = .ok (.iconst 1, 1) := by decide +kernel
theorem dX12_undo_24 : decode cX12_undo 24 = .ok (.isub, 1) := by decide +kernel
theorem dX12_undo_25 : decode cX12_undo 25 = .ok (.putfield 184, 3) := by decide +kernel
theorem dX12_undo_28 : decode cX12_undo 28 = .ok (.aload_n 0, 1) := by decide +kernel
theorem dX12_undo_29 : decode cX12_undo 29 = .ok (.getfield 29, 3) := by decide +kernel
theorem dX12_undo_32 : decode cX12_undo 32 = .ok (.bipush 6, 2) := by decide +kernel
theorem dX12_undo_34 : decode cX12_undo 34 = .ok (.aload_n 0, 1) := by decide +kernel
theorem dX12_undo_35 : decode cX12_undo 35 = .ok (.getfield 184, 3) := by decide +kernel
theorem dX12_undo_38 : decode cX12_undo 38 = .ok (.imul, 1) := by decide +kernel
theorem dX12_undo_39 : decode cX12_undo 39 = .ok (.aload_n 0, 1) := by decide +kernel
theorem dX12_undo_40 : decode cX12_undo 40 = .ok (.getfield 26, 3) := by decide +kernel
theorem dX12_undo_43 : decode cX12_undo 43 = .ok (.iconst 0, 1) := by decide +kernel
theorem dX12_undo_44 : decode cX12_undo 44 = .ok (.bipush 6, 2) := by decide +kernel
theorem dX12_undo_46 : decode cX12_undo 46 = .ok (.invokestatic 177, 3) := by decide +kernel
theorem dX12_undo_49 : decode cX12_undo 49 = .ok (.iconst 1, 1) := by decide +kernel
theorem dX12_undo_50 : decode cX12_undo 50 = .ok (.ireturn, 1) := by decide +kernel
theorem dX12_image_0 : decode cX12_image 0 = .ok (.aload_n 0, 1) := by decide +kernel
theorem dX12_image_1 : decode cX12_image 1 = .ok (.invokevirtual 168, 3) := by decide +kernel
theorem dX12_image_4 : decode cX12_image 4 = .ok (.aload_n 0, 1) := by decide +kernel
theorem dX12_image_5 : decode cX12_image 5 = .ok (.getfield 181, 3) := by decide +kernel
theorem dX12_image_8 : decode cX12_image 8 = .ok (.ifCond .ne 9, 3) := by decide +kernel
theorem dX12_image_11 : decode cX12_image 11 = .ok (.aload_n 0, 1) := by decide +kernel
theorem dX12_image_12 : decode cX12_image 12 = .ok (.iconst 1, 1) := by decide +kernel
theorem dX12_image_13 : decode cX12_image 13 = .ok (.invokevirtual 171, 3) := by decide +kernel
theorem dX12_image_16 : decode cX12_image 16 = .ok (.ireturn, 1) := by decide +kernel
theorem dX12_image_17 : decode cX12_image 17 = .ok (.aload_n 0, 1) := by decide +kernel
theorem dX12_image_18 : decode cX12_image 18 = .ok (.getfield 187, 3) := by decide +kernel
theorem dX12_image_21 : decode cX12_image 21 = .ok (.iconst 3, 1) := by decide +kernel
theorem dX12_image_22 : decode cX12_image 22 = .ok (.if_icmp .ne 9, 3) := by decide +kernel
theorem dX12_image_25 : decode cX12_image 25 = .ok (.aload_n 0, 1) := by decide +kernel
theorem dX12_image_26 : decode cX12_image 26 = .ok (.iconst 3, 1) := by decide +kernel
theorem dX12_image_27 : decode cX12_image 27 = .ok (.invokevirtual 171, 3) := by decide +kernel
theorem dX12_image_30 : decode cX12_image 30 = .ok (.ireturn, 1) := by decide +kernel
theorem dX12_image_31 : decode cX12_image 31 = .ok (.aload_n 0, 1) := by decide +kernel
theorem dX12_image_32 : decode cX12_image 32 = .ok (.getfield 26, 3) := by decide +kernel
theorem dX12_image_35 : decode cX12_image 35 = .ok (.iconst 0, 1) := by decide +kernel
theorem dX12_image_36 : decode cX12_image 36 = .ok (.aload_n 0, 1) := by decide +kernel
theorem dX12_image_37 : decode cX12_image 37 = .ok (.getfield 32, 3) := by decide +kernel
theorem dX12_image_40 : decode cX12_image 40 = .ok (.bipush 6, 2) := by decide +kernel
theorem dX12_image_42 : decode cX12_image 42 = .ok (.aload_n 0, 1) := by decide +kernel
theorem dX12_image_43 : decode cX12_image 43 = .ok (.getfield 187, 3) := by decide +kernel
theorem dX12_image_46 : decode cX12_image 46 = .ok (.imul, 1) := by decide +kernel
theorem dX12_image_47 : decode cX12_image 47 = .ok (.bipush 6, 2) := by decide +kernel
theorem dX12_image_49 : decode cX12_image 49 = .ok (.invokestatic 177, 3) := by decide +kernel
theorem dX12_image_52 : decode cX12_image 52 = .ok (.aload_n 0, 1) := by decide +kernel
theorem dX12_image_53 : decode cX12_image 53 = .ok (.dup, 1) := by decide +kernel
theorem dX12_image_54 : decode cX12_image 54 = .ok (.getfield 187, 3) := by decide +kernel
theorem dX12_image_57 : decode cX12_image 57 = .ok (.iconst 1, 1) := by decide +kernel
theorem dX12_image_58 : decode cX12_image 58 = .ok (.iadd, 1) := by decide +kernel
theorem dX12_image_59 : decode cX12_image 59 = .ok (.putfield 187, 3) := by decide +kernel
theorem dX12_image_62 : decode cX12_image 62 = .ok (.aload_n 0, 1) := by decide +kernel
theorem dX12_image_63 : decode cX12_image 63 = .ok (.getfield 187, 3) := by decide +kernel
theorem dX12_image_66 : decode cX12_image 66 = .ok (.iconst 1, 1) := by decide +kernel
theorem dX12_image_67 : decode cX12_image 67 = .ok (.isub, 1) := by decide +kernel
theorem dX12_image_68 : decode cX12_image 68 = .ok (.ireturn, 1) := by decide +kernel
theorem dX12_back_0 : decode cX12_back 0 = .ok (.aload_n 0, 1) := by decide +kernel
theorem dX12_back_1 : decode cX12_back 1 = .ok (.invokevirtual 168, 3) := by decide +kernel
theorem dX12_back_4 : decode cX12_back 4 = .ok (.iload_n 1, 1) := by decide +kernel
theorem dX12_back_5 : decode cX12_back 5 = .ok (.iconst 0, 1) := by decide +kernel
theorem dX12_back_6 : decode cX12_back 6 = .ok (.aload_n 0, 1) := by decide +kernel
theorem dX12_back_7 : decode cX12_back 7 = .ok (.getfield 187, 3) := by decide +kernel
theorem dX12_back_10 : decode cX12_back 10 = .ok (.iconst 1, 1) := by decide +kernel
theorem dX12_back_11 : decode cX12_back 11 = .ok (.isub, 1) := by decide +kernel
theorem dX12_back_12 : decode cX12_back 12 = .ok (.invokestatic 150, 3) := by decide +kernel
theorem dX12_back_15 : decode cX12_back 15 = .ok (.ifCond .ne 9, 3) := by decide +kernel
theorem dX12_back_18 : decode cX12_back 18 = .ok (.aload_n 0, 1) := by decide +kernel
theorem dX12_back_19 : decode cX12_back 19 = .ok (.iconst 1, 1) := by decide +kernel
theorem dX12_back_20 : decode cX12_back 20 = .ok (.invokevirtual 431, 3) := by decide +kernel
theorem dX12_back_23 : decode cX12_back 23 = .ok (.ireturn, 1) := by decide +kernel
theorem dX12_back_24 : decode cX12_back 24 = .ok (.aload_n 0, 1) := by decide +kernel
theorem dX12_back_25 : decode cX12_back 25 = .ok (.getfield 32, 3) := by decide +kernel
theorem dX12_back_28 : decode cX12_back 28 = .ok (.bipush 6, 2) := by decide +kernel
theorem dX12_back_30 : decode cX12_back 30 = .ok (.iload_n 1, 1) := by decide +kernel
theorem dX12_back_31 : decode cX12_back 31 = .ok (.imul, 1) := by decide +kernel
theorem dX12_back_32 : decode cX12_back 32 = .ok (.aload_n 0, 1) := by decide +kernel
theorem dX12_back_33 : decode cX12_back 33 = .ok (.getfield 26, 3) := by decide +kernel
theorem dX12_back_36 : decode cX12_back 36 = .ok (.iconst 0, 1) := by decide +kernel
theorem dX12_back_37 : decode cX12_back 37 = .ok (.bipush 6, 2) := by decide +kernel
theorem dX12_back_39 : decode cX12_back 39 = .ok (.invokestatic 177, 3) := by decide +kernel
theorem dX12_back_42 : decode cX12_back 42 = .ok (.aload_n 0, 1) := by decide +kernel
theorem dX12_back_43 : decode cX12_back 43 = .ok (.iconst 0, 1) := by decide +kernel
theorem dX12_back_44 : decode cX12_back 44 = .ok (.putfield 184, 3) := by decide +kernel
theorem dX12_back_47 : decode cX12_back 47 = .ok (.iconst 1, 1) := by decide +kernel
theorem dX12_back_48 : decode cX12_back 48 = .ok (.ireturn, 1) := by decide +kernel
theorem dX12_led_0 : decode cX12_led 0 = .ok (.iconst 0, 1) := by decide +kernel
theorem dX12_led_1 : decode cX12_led 1 = .ok (.istore_n 2, 1) := by decide +kernel
theorem dX12_led_2 : decode cX12_led 2 = .ok (.iconst 0, 1) := by decide +kernel
theorem dX12_led_3 : decode cX12_led 3 = .ok (.istore_n 3, 1) := by decide +kernel
theorem dX12_led_4 : decode cX12_led 4 = .ok (.aload_n 0, 1) := by decide +kernel
theorem dX12_led_5 : decode cX12_led 5 = .ok (.getfield 181, 3) := by decide +kernel
theorem dX12_led_8 : decode cX12_led 8 = .ok (.ifCond .eq 51, 3) := by decide +kernel
theorem dX12_led_11 : decode cX12_led 11 = .ok (.iload_n 3, 1) := by decide +kernel
theorem dX12_led_12 : decode cX12_led 12 = .ok (.aload_n 0, 1) := by decide +kernel
theorem dX12_led_13 : decode cX12_led 13 = .ok (.getfield 20, 3) := by decide +kernel
theorem dX12_led_16 : decode cX12_led 16 = .ok (.bipush 6, 2) := by decide +kernel
theorem dX12_led_18 : decode cX12_led 18 = .ok (.iaload, 1) := by decide +kernel
theorem dX12_led_19 : decode cX12_led 19 = .ok (.if_icmp .ge 40, 3) := by decide +kernel
theorem dX12_led_22 : decode cX12_led 22 = .ok (.aload_n 0, 1) := by decide +kernel
theorem dX12_led_23 : decode cX12_led 23 = .ok (.getfield 26, 3) := by decide +kernel
theorem dX12_led_26 : decode cX12_led 26 = .ok (.iconst 5, 1) := by decide +kernel
theorem dX12_led_27 : decode cX12_led 27 = .ok (.iaload, 1) := by decide +kernel
theorem dX12_led_28 : decode cX12_led 28 = .ok (.iload_n 3, 1) := by decide +kernel
theorem dX12_led_29 : decode cX12_led 29 = .ok (.invokestatic 237, 3) := by decide +kernel
theorem dX12_led_32 : decode cX12_led 32 = .ok (.ifCond .ne 6, 3) := by decide +kernel
theorem dX12_led_35 : decode cX12_led 35 = .ok (.goto 18, 3) := by decide +kernel
theorem dX12_led_38 : decode cX12_led 38 = .ok (.iload_n 2, 1) := by decide +kernel
theorem dX12_led_39 : decode cX12_led 39 = .ok (.iload_n 1, 1) := by decide +kernel
theorem dX12_led_40 : decode cX12_led 40 = .ok (.if_icmp .ne 10, 3) := by decide +kernel
theorem dX12_led_43 : decode cX12_led 43 = .ok (.aload_n 0, 1) := by decide +kernel
theorem dX12_led_44 : decode cX12_led 44 = .ok (.iconst 0, 1) := by decide +kernel
theorem dX12_led_45 : decode cX12_led 45 = .ok (.putfield 59, 3) := by decide +kernel
theorem dX12_led_48 : decode cX12_led 48 = .ok (.iload_n 3, 1) := by decide +kernel
theorem dX12_led_49 : decode cX12_led 49 = .ok (.ireturn, 1) := by decide +kernel
theorem dX12_led_50 : decode cX12_led 50 = .ok (.iinc 2 1, 3) := by decide +kernel
theorem dX12_led_53 : decode cX12_led 53 = .ok (.iinc 3 1, 3) := by decide +kernel
theorem dX12_led_56 : decode cX12_led 56 = .ok (.goto (-52), 3) := by decide +kernel
theorem dX12_led_59 : decode cX12_led 59 = .ok (.aload_n 0, 1) := by decide +kernel
theorem dX12_led_60 : decode cX12_led 60 = .ok (.iconst 1, 1) := by decide +kernel
theorem dX12_led_61 : decode cX12_led 61 = .ok (.putfield 59, 3) := by decide +kernel
theorem dX12_led_64 : decode cX12_led 64 = .ok (.iconst 0, 1) := by decide +kernel
theorem dX12_led_65 : decode cX12_led 65 = .ok (.ireturn, 1) := by decide +kernel
theorem dX12_size_0 : decode cX12_size 0 = .ok (.aload_n 0, 1) := by decide +kernel
theorem dX12_size_1 : decode cX12_size 1 = .ok (.iconst 0, 1) := by decide +kernel
theorem dX12_size_2 : decode cX12_size 2 = .ok (.putfield 59, 3) := by decide +kernel
theorem dX12_size_5 : decode cX12_size 5 = .ok (.iload_n 1, 1) := by decide +kernel
theorem dX12_size_6 : decode cX12_size 6 = .ok (.bipush 15, 2) := by decide +kernel
theorem dX12_size_8 : decode cX12_size 8 = .ok (.if_icmp .ne 8, 3) := by decide +kernel
theorem dX12_size_11 : decode cX12_size 11 = .ok (.aload_n 0, 1) := by decide +kernel
theorem dX12_size_12 : decode cX12_size 12 = .ok (.getfield 65, 3) := by decide +kernel
theorem dX12_size_15 : decode cX12_size 15 = .ok (.ireturn, 1) := by decide +kernel
theorem dX12_size_16 : decode cX12_size 16 = .ok (.aload_n 0, 1) := by decide +kernel
theorem dX12_size_17 : decode cX12_size 17 = .ok (.getfield 181, 3) := by decide +kernel
theorem dX12_size_20 : decode cX12_size 20 = .ok (.ifCond .ne 19, 3) := by decide +kernel
theorem dX12_size_23 : decode cX12_size 23 = .ok (.iload_n 1, 1) := by decide +kernel
theorem dX12_size_24 : decode cX12_size 24 = .ok (.iconst 0, 1) := by decide +kernel
theorem dX12_size_25 : decode cX12_size 25 = .ok (.bipush 14, 2) := by decide +kernel
theorem dX12_size_27 : decode cX12_size 27 = .ok (.invokestatic 150, 3) := by decide +kernel
theorem dX12_size_30 : decode cX12_size 30 = .ok (.ifCond .eq 7, 3) := by decide +kernel
theorem dX12_size_33 : decode cX12_size 33 = .ok (.iconst 0, 1) := by decide +kernel
theorem dX12_size_34 : decode cX12_size 34 = .ok (.goto 4, 3) := by decide +kernel
theorem dX12_size_37 : decode cX12_size 37 = .ok (.iconst (-1), 1) := by decide +kernel
theorem dX12_size_38 : decode cX12_size 38 = .ok (.ireturn, 1) := by decide +kernel
theorem dX12_size_39 : decode cX12_size 39 = .ok (.iload_n 1, 1) := by decide +kernel
theorem dX12_size_40 : decode cX12_size 40 = .ok (.iconst 0, 1) := by decide +kernel
theorem dX12_size_41 : decode cX12_size 41 = .ok (.bipush 8, 2) := by decide +kernel
theorem dX12_size_43 : decode cX12_size 43 = .ok (.invokestatic 150, 3) := by decide +kernel
theorem dX12_size_46 : decode cX12_size 46 = .ok (.ifCond .eq 10, 3) := by decide +kernel
theorem dX12_size_49 : decode cX12_size 49 = .ok (.aload_n 0, 1) := by decide +kernel
theorem dX12_size_50 : decode cX12_size 50 = .ok (.getfield 20, 3) := by decide +kernel
theorem dX12_size_53 : decode cX12_size 53 = .ok (.iload_n 1, 1) := by decide +kernel
theorem dX12_size_54 : decode cX12_size 54 = .ok (.iaload, 1) := by decide +kernel
theorem dX12_size_55 : decode cX12_size 55 = .ok (.ireturn, 1) := by decide +kernel
theorem dX12_size_56 : decode cX12_size 56 = .ok (.iload_n 1, 1) := by decide +kernel
theorem dX12_size_57 : decode cX12_size 57 = .ok (.tableswitch 93 9 14 #[39, 46, 53, 76, 83, 88], 39) := by decide +kernel
theorem dX12_size_96 : decode cX12_size 96 = .ok (.aload_n 0, 1) := by decide +kernel
theorem dX12_size_97 : decode cX12_size 97 = .ok (.getfield 26, 3) := by decide +kernel
theorem dX12_size_100 : decode cX12_size 100 = .ok (.iconst 0, 1) := by decide +kernel
theorem dX12_size_101 : decode cX12_size 101 = .ok (.iaload, 1) := by decide +kernel
theorem dX12_size_102 : decode cX12_size 102 = .ok (.ireturn, 1) := by decide +kernel
theorem dX12_size_103 : decode cX12_size 103 = .ok (.aload_n 0, 1) := by decide +kernel
theorem dX12_size_104 : decode cX12_size 104 = .ok (.getfield 26, 3) := by decide +kernel
theorem dX12_size_107 : decode cX12_size 107 = .ok (.iconst 1, 1) := by decide +kernel
theorem dX12_size_108 : decode cX12_size 108 = .ok (.iaload, 1) := by decide +kernel
theorem dX12_size_109 : decode cX12_size 109 = .ok (.ireturn, 1) := by decide +kernel
theorem dX12_size_110 : decode cX12_size 110 = .ok (.aload_n 0, 1) := by decide +kernel
theorem dX12_size_111 : decode cX12_size 111 = .ok (.getfield 26, 3) := by decide +kernel
theorem dX12_size_114 : decode cX12_size 114 = .ok (.iconst 2, 1) := by decide +kernel
theorem dX12_size_115 : decode cX12_size 115 = .ok (.iaload, 1) := by decide +kernel
theorem dX12_size_116 : decode cX12_size 116 = .ok (.ifCond .ne 8, 3) := by decide +kernel
theorem dX12_size_119 : decode cX12_size 119 = .ok (.bipush (-2), 2) := by decide +kernel
theorem dX12_size_121 : decode cX12_size 121 = .ok (.goto 11, 3) := by decide +kernel
theorem dX12_size_124 : decode cX12_size 124 = .ok (.aload_n 0, 1) := by decide +kernel
theorem dX12_size_125 : decode cX12_size 125 = .ok (.getfield 26, 3) := by decide +kernel
theorem dX12_size_128 : decode cX12_size 128 = .ok (.iconst 2, 1) := by decide +kernel
theorem dX12_size_129 : decode cX12_size 129 = .ok (.iaload, 1) := by decide +kernel
theorem dX12_size_130 : decode cX12_size 130 = .ok (.iconst 1, 1) := by decide +kernel
theorem dX12_size_131 : decode cX12_size 131 = .ok (.isub, 1) := by decide +kernel
theorem dX12_size_132 : decode cX12_size 132 = .ok (.ireturn, 1) := by decide +kernel
theorem dX12_size_133 : decode cX12_size 133 = .ok (.aload_n 0, 1) := by decide +kernel
theorem dX12_size_134 : decode cX12_size 134 = .ok (.getfield 26, 3) := by decide +kernel
theorem dX12_size_137 : decode cX12_size 137 = .ok (.iconst 3, 1) := by decide +kernel
theorem dX12_size_138 : decode cX12_size 138 = .ok (.iaload, 1) := by decide +kernel
theorem dX12_size_139 : decode cX12_size 139 = .ok (.ireturn, 1) := by decide +kernel
theorem dX12_size_140 : decode cX12_size 140 = .ok (.aload_n 0, 1) := by decide +kernel
theorem dX12_size_141 : decode cX12_size 141 = .ok (.getfield 184, 3) := by decide +kernel
theorem dX12_size_144 : decode cX12_size 144 = .ok (.ireturn, 1) := by decide +kernel
theorem dX12_size_145 : decode cX12_size 145 = .ok (.aload_n 0, 1) := by decide +kernel
theorem dX12_size_146 : decode cX12_size 146 = .ok (.getfield 187, 3) := by decide +kernel
theorem dX12_size_149 : decode cX12_size 149 = .ok (.ireturn, 1) := by decide +kernel
theorem dX12_size_150 : decode cX12_size 150 = .ok (.iconst (-1), 1) := by decide +kernel
theorem dX12_size_151 : decode cX12_size 151 = .ok (.ireturn, 1) := by decide +kernel
theorem dX12_trouble_0 : decode cX12_trouble 0 = .ok (.aload_n 0, 1) := by decide +kernel
theorem dX12_trouble_1 : decode cX12_trouble 1 = .ok (.iconst 0, 1) := by decide +kernel
theorem dX12_trouble_2 : decode cX12_trouble 2 = .ok (.putfield 59, 3) := by decide +kernel
theorem dX12_trouble_5 : decode cX12_trouble 5 = .ok (.aload_n 0, 1) := by decide +kernel
theorem dX12_trouble_6 : decode cX12_trouble 6 = .ok (.getfield 62, 3) := by decide +kernel
theorem dX12_trouble_9 : decode cX12_trouble 9 = .ok (.ireturn, 1) := by decide +kernel
theorem dJ6_bitCount_0f7a4_0 : decode cJ6_bitCount_0f7a4 0 = .ok (.iload_n 0, 1) := by decide +kernel
theorem dJ6_bitCount_0f7a4_1 : decode cJ6_bitCount_0f7a4 1 = .ok (.iload_n 0, 1) := by decide +kernel
theorem dJ6_bitCount_0f7a4_2 : decode cJ6_bitCount_0f7a4 2 = .ok (.iconst 1, 1) := by decide +kernel
theorem dJ6_bitCount_0f7a4_3 : decode cJ6_bitCount_0f7a4 3 = .ok (.iushr, 1) := by decide +kernel
theorem dJ6_bitCount_0f7a4_4 : decode cJ6_bitCount_0f7a4 4 = .ok (.ldc_w 265, 3) := by decide +kernel
theorem dJ6_bitCount_0f7a4_7 : decode cJ6_bitCount_0f7a4 7 = .ok (.iand, 1) := by decide +kernel
theorem dJ6_bitCount_0f7a4_8 : decode cJ6_bitCount_0f7a4 8 = .ok (.isub, 1) := by decide +kernel
theorem dJ6_bitCount_0f7a4_9 : decode cJ6_bitCount_0f7a4 9 = .ok (.istore_n 0, 1) := by decide +kernel
theorem dJ6_bitCount_0f7a4_10 : decode cJ6_bitCount_0f7a4 10 = .ok (.iload_n 0, 1) := by decide +kernel
theorem dJ6_bitCount_0f7a4_11 : decode cJ6_bitCount_0f7a4 11 = .ok (.ldc_w 266, 3) := by decide +kernel
theorem dJ6_bitCount_0f7a4_14 : decode cJ6_bitCount_0f7a4 14 = .ok (.iand, 1) := by decide +kernel
theorem dJ6_bitCount_0f7a4_15 : decode cJ6_bitCount_0f7a4 15 = .ok (.iload_n 0, 1) := by decide +kernel
theorem dJ6_bitCount_0f7a4_16 : decode cJ6_bitCount_0f7a4 16 = .ok (.iconst 2, 1) := by decide +kernel
theorem dJ6_bitCount_0f7a4_17 : decode cJ6_bitCount_0f7a4 17 = .ok (.iushr, 1) := by decide +kernel
theorem dJ6_bitCount_0f7a4_18 : decode cJ6_bitCount_0f7a4 18 = .ok (.ldc_w 266, 3) := by decide +kernel
theorem dJ6_bitCount_0f7a4_21 : decode cJ6_bitCount_0f7a4 21 = .ok (.iand, 1) := by decide +kernel
theorem dJ6_bitCount_0f7a4_22 : decode cJ6_bitCount_0f7a4 22 = .ok (.iadd, 1) := by decide +kernel
theorem dJ6_bitCount_0f7a4_23 : decode cJ6_bitCount_0f7a4 23 = .ok (.istore_n 0, 1) := by decide +kernel
theorem dJ6_bitCount_0f7a4_24 : decode cJ6_bitCount_0f7a4 24 = .ok (.iload_n 0, 1) := by decide +kernel
theorem dJ6_bitCount_0f7a4_25 : decode cJ6_bitCount_0f7a4 25 = .ok (.iload_n 0, 1) := by decide +kernel
theorem dJ6_bitCount_0f7a4_26 : decode cJ6_bitCount_0f7a4 26 = .ok (.iconst 4, 1) := by decide +kernel
theorem dJ6_bitCount_0f7a4_27 : decode cJ6_bitCount_0f7a4 27 = .ok (.iushr, 1) := by decide +kernel
theorem dJ6_bitCount_0f7a4_28 : decode cJ6_bitCount_0f7a4 28 = .ok (.iadd, 1) := by decide +kernel
theorem dJ6_bitCount_0f7a4_29 : decode cJ6_bitCount_0f7a4 29 = .ok (.ldc_w 267, 3) := by decide +kernel
theorem dJ6_bitCount_0f7a4_32 : decode cJ6_bitCount_0f7a4 32 = .ok (.iand, 1) := by decide +kernel
theorem dJ6_bitCount_0f7a4_33 : decode cJ6_bitCount_0f7a4 33 = .ok (.istore_n 0, 1) := by decide +kernel
theorem dJ6_bitCount_0f7a4_34 : decode cJ6_bitCount_0f7a4 34 = .ok (.iload_n 0, 1) := by decide +kernel
theorem dJ6_bitCount_0f7a4_35 : decode cJ6_bitCount_0f7a4 35 = .ok (.iload_n 0, 1) := by decide +kernel
theorem dJ6_bitCount_0f7a4_36 : decode cJ6_bitCount_0f7a4 36 = .ok (.bipush 8, 2) := by decide +kernel
theorem dJ6_bitCount_0f7a4_38 : decode cJ6_bitCount_0f7a4 38 = .ok (.iushr, 1) := by decide +kernel
theorem dJ6_bitCount_0f7a4_39 : decode cJ6_bitCount_0f7a4 39 = .ok (.iadd, 1) := by decide +kernel
theorem dJ6_bitCount_0f7a4_40 : decode cJ6_bitCount_0f7a4 40 = .ok (.istore_n 0, 1) := by decide +kernel
theorem dJ6_bitCount_0f7a4_41 : decode cJ6_bitCount_0f7a4 41 = .ok (.iload_n 0, 1) := by decide +kernel
theorem dJ6_bitCount_0f7a4_42 : decode cJ6_bitCount_0f7a4 42 = .ok (.iload_n 0, 1) := by decide +kernel
theorem dJ6_bitCount_0f7a4_43 : decode cJ6_bitCount_0f7a4 43 = .ok (.bipush 16, 2) := by decide +kernel
theorem dJ6_bitCount_0f7a4_45 : decode cJ6_bitCount_0f7a4 45 = .ok (.iushr, 1) := by decide +kernel
theorem dJ6_bitCount_0f7a4_46 : decode cJ6_bitCount_0f7a4 46 = .ok (.iadd, 1) := by decide +kernel
theorem dJ6_bitCount_0f7a4_47 : decode cJ6_bitCount_0f7a4 47 = .ok (.istore_n 0, 1) := by decide +kernel
theorem dJ6_bitCount_0f7a4_48 : decode cJ6_bitCount_0f7a4 48 = .ok (.iload_n 0, 1) := by decide +kernel
theorem dJ6_bitCount_0f7a4_49 : decode cJ6_bitCount_0f7a4 49 = .ok (.bipush 63, 2) := by decide +kernel
theorem dJ6_bitCount_0f7a4_51 : decode cJ6_bitCount_0f7a4 51 = .ok (.iand, 1) := by decide +kernel
theorem dJ6_bitCount_0f7a4_52 : decode cJ6_bitCount_0f7a4 52 = .ok (.ireturn, 1) := by decide +kernel
theorem dJ9_max_7cf53_0 : decode cJ9_max_7cf53 0 = .ok (.iload_n 0, 1) := by decide +kernel
theorem dJ9_max_7cf53_1 : decode cJ9_max_7cf53 1 = .ok (.iload_n 1, 1) := by decide +kernel
theorem dJ9_max_7cf53_2 : decode cJ9_max_7cf53 2 = .ok (.if_icmp .lt 7, 3) := by decide +kernel
theorem dJ9_max_7cf53_5 : decode cJ9_max_7cf53 5 = .ok (.iload_n 0, 1) := by decide +kernel
theorem dJ9_max_7cf53_6 : decode cJ9_max_7cf53 6 = .ok (.goto 4, 3) := by decide +kernel
theorem dJ9_max_7cf53_9 : decode cJ9_max_7cf53 9 = .ok (.iload_n 1, 1) := by decide +kernel
theorem dJ9_max_7cf53_10 : decode cJ9_max_7cf53 10 = .ok (.ireturn, 1) := by decide +kernel
theorem dJ9_min_7cf53_0 : decode cJ9_min_7cf53 0 = .ok (.iload_n 0, 1) := by decide +kernel
theorem dJ9_min_7cf53_1 : decode cJ9_min_7cf53 1 = .ok (.iload_n 1, 1) := by decide +kernel
theorem dJ9_min_7cf53_2 : decode cJ9_min_7cf53 2 = .ok (.if_icmp .gt 7, 3) := by decide +kernel
theorem dJ9_min_7cf53_5 : decode cJ9_min_7cf53 5 = .ok (.iload_n 0, 1) := by decide +kernel
theorem dJ9_min_7cf53_6 : decode cJ9_min_7cf53 6 = .ok (.goto 4, 3) := by decide +kernel
theorem dJ9_min_7cf53_9 : decode cJ9_min_7cf53 9 = .ok (.iload_n 1, 1) := by decide +kernel
theorem dJ9_min_7cf53_10 : decode cJ9_min_7cf53 10 = .ok (.ireturn, 1) := by decide +kernel
theorem dJ0_length_8abf5_0 : decode cJ0_length_8abf5 0 = .ok (.aload_n 0, 1) := by decide +kernel
theorem dJ0_length_8abf5_1 : decode cJ0_length_8abf5 1 = .ok (.getfield 9, 3) := by decide +kernel
theorem dJ0_length_8abf5_4 : decode cJ0_length_8abf5 4 = .ok (.arraylength, 1) := by decide +kernel
theorem dJ0_length_8abf5_5 : decode cJ0_length_8abf5 5 = .ok (.aload_n 0, 1) := by decide +kernel
theorem dJ0_length_8abf5_6 : decode cJ0_length_8abf5 6 = .ok (.invokevirtual 335, 3) := by decide +kernel
theorem dJ0_length_8abf5_9 : decode cJ0_length_8abf5 9 = .ok (.ishr, 1) := by decide +kernel
theorem dJ0_length_8abf5_10 : decode cJ0_length_8abf5 10 = .ok (.ireturn, 1) := by decide +kernel
theorem dJ0_charAt_5068e_0 : decode cJ0_charAt_5068e 0 = .ok (.aload_n 0, 1) := by decide +kernel
theorem dJ0_charAt_5068e_1 : decode cJ0_charAt_5068e 1 = .ok (.invokevirtual 492, 3) := by decide +kernel
theorem dJ0_charAt_5068e_4 : decode cJ0_charAt_5068e 4 = .ok (.ifCond .eq 12, 3) := by decide +kernel
theorem dJ0_charAt_5068e_7 : decode cJ0_charAt_5068e 7 = .ok (.aload_n 0, 1) := by decide +kernel
theorem dJ0_charAt_5068e_8 : decode cJ0_charAt_5068e 8 = .ok (.getfield 9, 3) := by decide +kernel
theorem dJ0_charAt_5068e_11 : decode cJ0_charAt_5068e 11 = .ok (.iload_n 1, 1) := by decide +kernel
theorem dJ0_charAt_5068e_12 : decode cJ0_charAt_5068e 12 = .ok (.invokestatic 495, 3) := by decide +kernel
theorem dJ0_charAt_5068e_15 : decode cJ0_charAt_5068e 15 = .ok (.ireturn, 1) := by decide +kernel
theorem dJ0_charAt_5068e_16 : decode cJ0_charAt_5068e 16 = .ok (.aload_n 0, 1) := by decide +kernel
theorem dJ0_charAt_5068e_17 : decode cJ0_charAt_5068e 17 = .ok (.getfield 9, 3) := by decide +kernel
theorem dJ0_charAt_5068e_20 : decode cJ0_charAt_5068e 20 = .ok (.iload_n 1, 1) := by decide +kernel
theorem dJ0_charAt_5068e_21 : decode cJ0_charAt_5068e 21 = .ok (.invokestatic 498, 3) := by decide +kernel
theorem dJ0_charAt_5068e_24 : decode cJ0_charAt_5068e 24 = .ok (.ireturn, 1) := by decide +kernel
theorem dJ0_coder_7d493_0 : decode cJ0_coder_7d493 0 = .ok (.getstatic 38, 3) := by decide +kernel
theorem dJ0_coder_7d493_3 : decode cJ0_coder_7d493 3 = .ok (.ifCond .eq 10, 3) := by decide +kernel
theorem dJ0_coder_7d493_6 : decode cJ0_coder_7d493 6 = .ok (.aload_n 0, 1) := by decide +kernel
theorem dJ0_coder_7d493_7 : decode cJ0_coder_7d493 7 = .ok (.getfield 15, 3) := by decide +kernel
theorem dJ0_coder_7d493_10 : decode cJ0_coder_7d493 10 = .ok (.goto 4, 3) := by decide +kernel
theorem dJ0_coder_7d493_13 : decode cJ0_coder_7d493 13 = .ok (.iconst 1, 1) := by decide +kernel
theorem dJ0_coder_7d493_14 : decode cJ0_coder_7d493 14 = .ok (.ireturn, 1) := by decide +kernel
theorem dJ0_isLatin1_aae02_0 : decode cJ0_isLatin1_aae02 0 = .ok (.getstatic 38, 3) := by decide +kernel
theorem dJ0_isLatin1_aae02_3 : decode cJ0_isLatin1_aae02 3 = .ok (.ifCond .eq 14, 3) := by decide +kernel
theorem dJ0_isLatin1_aae02_6 : decode cJ0_isLatin1_aae02 6 = .ok (.aload_n 0, 1) := by decide +kernel
theorem dJ0_isLatin1_aae02_7 : decode cJ0_isLatin1_aae02 7 = .ok (.getfield 15, 3) := by decide +kernel
theorem dJ0_isLatin1_aae02_10 : decode cJ0_isLatin1_aae02 10 = .ok (.ifCond .ne 7, 3) := by decide +kernel
theorem dJ0_isLatin1_aae02_13 : decode cJ0_isLatin1_aae02 13 = .ok (.iconst 1, 1) := by decide +kernel
theorem dJ0_isLatin1_aae02_14 : decode cJ0_isLatin1_aae02 14 = .ok (.goto 4, 3) := by decide +kernel
theorem dJ0_isLatin1_aae02_17 : decode cJ0_isLatin1_aae02 17 = .ok (.iconst 0, 1) := by decide +kernel
theorem dJ0_isLatin1_aae02_18 : decode cJ0_isLatin1_aae02 18 = .ok (.ireturn, 1) := by decide +kernel
theorem dJ0_checkIndex_df160_0 : decode cJ0_checkIndex_df160 0 = .ok (.iload_n 0, 1) := by decide +kernel
theorem dJ0_checkIndex_df160_1 : decode cJ0_checkIndex_df160 1 = .ok (.iload_n 1, 1) := by decide +kernel
theorem dJ0_checkIndex_df160_2 : decode cJ0_checkIndex_df160 2 = .ok (.getstatic 1053, 3) := by decide +kernel
theorem dJ0_checkIndex_df160_5 : decode cJ0_checkIndex_df160 5 = .ok (.invokestatic 1059, 3) := by decide +kernel
theorem dJ0_checkIndex_df160_8 : decode cJ0_checkIndex_df160 8 = .ok (.pop, 1) := by decide +kernel
theorem dJ0_checkIndex_df160_9 : decode cJ0_checkIndex_df160 9 = .ok (.return_, 1) := by decide +kernel
theorem dJ1_charAt_3b067_0 : decode cJ1_charAt_3b067 0 = .ok (.iload_n 1, 1) := by decide +kernel
theorem dJ1_charAt_3b067_1 : decode cJ1_charAt_3b067 1 = .ok (.aload_n 0, 1) := by decide +kernel
theorem dJ1_charAt_3b067_2 : decode cJ1_charAt_3b067 2 = .ok (.arraylength, 1) := by decide +kernel
theorem dJ1_charAt_3b067_3 : decode cJ1_charAt_3b067 3 = .ok (.invokestatic 9, 3) := by decide +kernel
theorem dJ1_charAt_3b067_6 : decode cJ1_charAt_3b067 6 = .ok (.aload_n 0, 1) := by decide +kernel
theorem dJ1_charAt_3b067_7 : decode cJ1_charAt_3b067 7 = .ok (.iload_n 1, 1) := by decide +kernel
theorem dJ1_charAt_3b067_8 : decode cJ1_charAt_3b067 8 = .ok (.baload, 1) := by decide +kernel
theorem dJ1_charAt_3b067_9 : decode cJ1_charAt_3b067 9 = .ok (.sipush 255, 3) := by decide +kernel
theorem dJ1_charAt_3b067_12 : decode cJ1_charAt_3b067 12 = .ok (.iand, 1) := by decide +kernel
theorem dJ1_charAt_3b067_13 : decode cJ1_charAt_3b067 13 = .ok (.i2c, 1) := by decide +kernel
theorem dJ1_charAt_3b067_14 : decode cJ1_charAt_3b067 14 = .ok (.ireturn, 1) := by decide +kernel
theorem dJ2_getChar_3b067_0 : decode cJ2_getChar_3b067 0 = .ok (.getstatic 44, 3) := by decide +kernel
theorem dJ2_getChar_3b067_3 : decode cJ2_getChar_3b067 3 = .ok (.ifCond .ne 25, 3) := by decide +kernel
theorem dJ2_getChar_3b067_6 : decode cJ2_getChar_3b067 6 = .ok (.iload_n 1, 1) := by decide +kernel
theorem dJ2_getChar_3b067_7 : decode cJ2_getChar_3b067 7 = .ok (.ifCond .lt 11, 3) := by decide +kernel
theorem dJ2_getChar_3b067_10 : decode cJ2_getChar_3b067 10 = .ok (.iload_n 1, 1) := by decide +kernel
theorem dJ2_getChar_3b067_11 : decode cJ2_getChar_3b067 11 = .ok (.aload_n 0, 1) := by decide +kernel
theorem dJ2_getChar_3b067_12 : decode cJ2_getChar_3b067 12 = .ok (.invokestatic 48, 3) := by decide +kernel
theorem dJ2_getChar_3b067_15 : decode cJ2_getChar_3b067 15 = .ok (.if_icmp .lt 13, 3) := by decide +kernel
theorem dJ2_getChar_3b067_18 : decode cJ2_getChar_3b067 18 = .ok (.new 52, 3) := by decide +kernel
theorem dJ2_getChar_3b067_21 : decode cJ2_getChar_3b067 21 = .ok (.dup, 1) := by decide +kernel
theorem dJ2_getChar_3b067_22 : decode cJ2_getChar_3b067 22 = .ok (.ldc 54, 2) := by decide +kernel
theorem dJ2_getChar_3b067_24 : decode cJ2_getChar_3b067 24 = .ok (.invokespecial 56, 3) := by decide +kernel
theorem dJ2_getChar_3b067_27 : decode cJ2_getChar_3b067 27 = .ok (.athrow, 1) := by decide +kernel
theorem dJ2_getChar_3b067_28 : decode cJ2_getChar_3b067 28 = .ok (.iload_n 1, 1) := by decide +kernel
theorem dJ2_getChar_3b067_29 : decode cJ2_getChar_3b067 29 = .ok (.iconst 1, 1) := by decide +kernel
theorem dJ2_getChar_3b067_30 : decode cJ2_getChar_3b067 30 = .ok (.ishl, 1) := by decide +kernel
theorem dJ2_getChar_3b067_31 : decode cJ2_getChar_3b067 31 = .ok (.istore_n 1, 1) := by decide +kernel
theorem dJ2_getChar_3b067_32 : decode cJ2_getChar_3b067 32 = .ok (.aload_n 0, 1) := by decide +kernel
theorem dJ2_getChar_3b067_33 : decode cJ2_getChar_3b067 33 = .ok (.iload_n 1, 1) := by decide +kernel
theorem dJ2_getChar_3b067_34 : decode cJ2_getChar_3b067 34 = .ok (.iinc 1 1, 3) := by decide +kernel
theorem dJ2_getChar_3b067_37 : decode cJ2_getChar_3b067 37 = .ok (.baload, 1) := by decide +kernel
theorem dJ2_getChar_3b067_38 : decode cJ2_getChar_3b067 38 = .ok (.sipush 255, 3) := by decide +kernel
theorem dJ2_getChar_3b067_41 : decode cJ2_getChar_3b067 41 = .ok (.iand, 1) := by decide +kernel
theorem dJ2_getChar_3b067_42 : decode cJ2_getChar_3b067 42 = .ok (.getstatic 59, 3) := by decide +kernel
theorem dJ2_getChar_3b067_45 : decode cJ2_getChar_3b067 45 = .ok (.ishl, 1) := by decide +kernel
theorem dJ2_getChar_3b067_46 : decode cJ2_getChar_3b067 46 = .ok (.aload_n 0, 1) := by decide +kernel
theorem dJ2_getChar_3b067_47 : decode cJ2_getChar_3b067 47 = .ok (.iload_n 1, 1) := by decide +kernel
theorem dJ2_getChar_3b067_48 : decode cJ2_getChar_3b067 48 = .ok (.baload, 1) := by decide +kernel
theorem dJ2_getChar_3b067_49 : decode cJ2_getChar_3b067 49 = .ok (.sipush 255, 3) := by decide +kernel
theorem dJ2_getChar_3b067_52 : decode cJ2_getChar_3b067 52 = .ok (.iand, 1) := by decide +kernel
theorem dJ2_getChar_3b067_53 : decode cJ2_getChar_3b067 53 = .ok (.getstatic 63, 3) := by decide +kernel
theorem dJ2_getChar_3b067_56 : decode cJ2_getChar_3b067 56 = .ok (.ishl, 1) := by decide +kernel
theorem dJ2_getChar_3b067_57 : decode cJ2_getChar_3b067 57 = .ok (.ior, 1) := by decide +kernel
theorem dJ2_getChar_3b067_58 : decode cJ2_getChar_3b067 58 = .ok (.i2c, 1) := by decide +kernel
theorem dJ2_getChar_3b067_59 : decode cJ2_getChar_3b067 59 = .ok (.ireturn, 1) := by decide +kernel
theorem dJ2_length_9d52b_0 : decode cJ2_length_9d52b 0 = .ok (.aload_n 0, 1) := by decide +kernel
theorem dJ2_length_9d52b_1 : decode cJ2_length_9d52b 1 = .ok (.arraylength, 1) := by decide +kernel
theorem dJ2_length_9d52b_2 : decode cJ2_length_9d52b 2 = .ok (.iconst 1, 1) := by decide +kernel
theorem dJ2_length_9d52b_3 : decode cJ2_length_9d52b 3 = .ok (.ishr, 1) := by decide +kernel
theorem dJ2_length_9d52b_4 : decode cJ2_length_9d52b 4 = .ok (.ireturn, 1) := by decide +kernel
theorem dJ2_charAt_3b067_0 : decode cJ2_charAt_3b067 0 = .ok (.iload_n 1, 1) := by decide +kernel
theorem dJ2_charAt_3b067_1 : decode cJ2_charAt_3b067 1 = .ok (.aload_n 0, 1) := by decide +kernel
theorem dJ2_charAt_3b067_2 : decode cJ2_charAt_3b067 2 = .ok (.invokestatic 67, 3) := by decide +kernel
theorem dJ2_charAt_3b067_5 : decode cJ2_charAt_3b067 5 = .ok (.aload_n 0, 1) := by decide +kernel
theorem dJ2_charAt_3b067_6 : decode cJ2_charAt_3b067 6 = .ok (.iload_n 1, 1) := by decide +kernel
theorem dJ2_charAt_3b067_7 : decode cJ2_charAt_3b067 7 = .ok (.invokestatic 71, 3) := by decide +kernel
theorem dJ2_charAt_3b067_10 : decode cJ2_charAt_3b067 10 = .ok (.ireturn, 1) := by decide +kernel
theorem dJ2_checkIndex_2214a_0 : decode cJ2_checkIndex_2214a 0 = .ok (.iload_n 0, 1) := by decide +kernel
theorem dJ2_checkIndex_2214a_1 : decode cJ2_checkIndex_2214a 1 = .ok (.aload_n 1, 1) := by decide +kernel
theorem dJ2_checkIndex_2214a_2 : decode cJ2_checkIndex_2214a 2 = .ok (.invokestatic 48, 3) := by decide +kernel
theorem dJ2_checkIndex_2214a_5 : decode cJ2_checkIndex_2214a 5 = .ok (.invokestatic 414, 3) := by decide +kernel
theorem dJ2_checkIndex_2214a_8 : decode cJ2_checkIndex_2214a 8 = .ok (.return_, 1) := by decide +kernel
theorem dJ3_checkIndex_8e157_0 : decode cJ3_checkIndex_8e157 0 = .ok (.iload_n 0, 1) := by decide +kernel
theorem dJ3_checkIndex_8e157_1 : decode cJ3_checkIndex_8e157 1 = .ok (.ifCond .lt 8, 3) := by decide +kernel
theorem dJ3_checkIndex_8e157_4 : decode cJ3_checkIndex_8e157 4 = .ok (.iload_n 0, 1) := by decide +kernel
theorem dJ3_checkIndex_8e157_5 : decode cJ3_checkIndex_8e157 5 = .ok (.iload_n 1, 1) := by decide +kernel
theorem dJ3_checkIndex_8e157_6 : decode cJ3_checkIndex_8e157 6 = .ok (.if_icmp .lt 10, 3) := by decide +kernel
theorem dJ3_checkIndex_8e157_9 : decode cJ3_checkIndex_8e157 9 = .ok (.aload_n 2, 1) := by decide +kernel
theorem dJ3_checkIndex_8e157_10 : decode cJ3_checkIndex_8e157 10 = .ok (.iload_n 0, 1) := by decide +kernel
theorem dJ3_checkIndex_8e157_11 : decode cJ3_checkIndex_8e157 11 = .ok (.iload_n 1, 1) := by decide +kernel
theorem dJ3_checkIndex_8e157_12 : decode cJ3_checkIndex_8e157 12 = .ok (.invokestatic 95, 3) := by decide +kernel
theorem dJ3_checkIndex_8e157_15 : decode cJ3_checkIndex_8e157 15 = .ok (.athrow, 1) := by decide +kernel
theorem dJ3_checkIndex_8e157_16 : decode cJ3_checkIndex_8e157 16 = .ok (.iload_n 0, 1) := by decide +kernel
theorem dJ3_checkIndex_8e157_17 : decode cJ3_checkIndex_8e157 17 = .ok (.ireturn, 1) := by decide +kernel
theorem dL_led_0 : decode cL_led 0 = .ok (.aload_n 2, 1) := by decide +kernel
theorem dL_led_1 : decode cL_led 1 = .ok (.iconst 0, 1) := by decide +kernel
theorem dL_led_2 : decode cL_led 2 = .ok (.aload_n 0, 1) := by decide +kernel
theorem dL_led_3 : decode cL_led 3 = .ok (.iload_n 1, 1) := by decide +kernel
theorem dL_led_4 : decode cL_led 4 = .ok (.invokevirtual 7, 3) := by decide +kernel
theorem dL_led_7 : decode cL_led 7 = .ok (.i2l, 1) := by decide +kernel
theorem dL_led_8 : decode cL_led 8 = .ok (.lastore, 1) := by decide +kernel
theorem dL_led_9 : decode cL_led 9 = .ok (.goto 6, 3) := by decide +kernel
theorem dL_led_12 : decode cL_led 12 = .ok (.astore_n 3, 1) := by decide +kernel
theorem dL_led_13 : decode cL_led 13 = .ok (.iconst 1, 1) := by decide +kernel
theorem dL_led_14 : decode cL_led 14 = .ok (.ireturn, 1) := by decide +kernel
theorem dL_led_15 : decode cL_led 15 = .ok (.iconst 0, 1) := by decide +kernel
theorem dL_led_16 : decode cL_led 16 = .ok (.ireturn, 1) := by decide +kernel
theorem dL_law_0 : decode cL_law 0 = .ok (.new 8, 3) := by decide +kernel
theorem dL_law_3 : decode cL_law 3 = .ok (.dup, 1) := by decide +kernel
theorem dL_law_4 : decode cL_law 4 = .ok (.invokespecial 15, 3) := by decide +kernel
theorem dL_law_7 : decode cL_law 7 = .ok (.astore_n 1, 1) := by decide +kernel
theorem dL_law_8 : decode cL_law 8 = .ok (.new 16, 3) := by decide +kernel
theorem dL_law_11 : decode cL_law 11 = .ok (.dup, 1) := by decide +kernel
theorem dL_law_12 : decode cL_law 12 = .ok (.invokespecial 18, 3) := by decide +kernel
theorem dL_law_15 : decode cL_law 15 = .ok (.astore_n 2, 1) := by decide +kernel
theorem dL_law_16 : decode cL_law 16 = .ok (.iconst 1, 1) := by decide +kernel
theorem dL_law_17 : decode cL_law 17 = .ok (.newarray .long, 2) := by decide +kernel
theorem dL_law_19 : decode cL_law 19 = .ok (.astore_n 3, 1) := by decide +kernel
theorem dL_law_20 : decode cL_law 20 = .ok (.iconst 0, 1) := by decide +kernel
theorem dL_law_21 : decode cL_law 21 = .ok (.istore 4, 2) := by decide +kernel
theorem dL_law_23 : decode cL_law 23 = .ok (.iload 4, 2) := by decide +kernel
theorem dL_law_25 : decode cL_law 25 = .ok (.aload_n 0, 1) := by decide +kernel
theorem dL_law_26 : decode cL_law 26 = .ok (.arraylength, 1) := by decide +kernel
theorem dL_law_27 : decode cL_law 27 = .ok (.bipush 6, 2) := by decide +kernel
theorem dL_law_29 : decode cL_law 29 = .ok (.isub, 1) := by decide +kernel
theorem dL_law_30 : decode cL_law 30 = .ok (.if_icmp .gt 1825, 3) := by decide +kernel
theorem dL_law_33 : decode cL_law 33 = .ok (.aload_n 0, 1) := by decide +kernel
theorem dL_law_34 : decode cL_law 34 = .ok (.iload 4, 2) := by decide +kernel
theorem dL_law_36 : decode cL_law 36 = .ok (.iaload, 1) := by decide +kernel
theorem dL_law_37 : decode cL_law 37 = .ok (.bipush 63, 2) := by decide +kernel
theorem dL_law_39 : decode cL_law 39 = .ok (.iand, 1) := by decide +kernel
theorem dL_law_40 : decode cL_law 40 = .ok (.tableswitch 1809 0 50 #[220, 293, 318, 331, 344, 381, 418, 455, 492, 558, 583, 608, 645, 670, 707, 744, 793, 818, 872, 926, 963, 988, 1013, 1050, 1063, 1088, 1101, 1178, 1203, 1228, 1277, 1314, 1351, 1364, 1389, 1414, 1439, 1452, 1465, 1478, 1515, 1552, 1589, 1614, 1639, 1664, 1677, 1690, 1715, 1771, 1796], 220) := by decide +kernel
theorem dL_law_260 : decode cL_law 260 = .ok (.aload_n 1, 1) := by decide +kernel
theorem dL_law_261 : decode cL_law 261 = .ok (.aload_n 0, 1) := by decide +kernel
theorem dL_law_262 : decode cL_law 262 = .ok (.iload 4, 2) := by decide +kernel
theorem dL_law_264 : decode cL_law 264 = .ok (.iconst 1, 1) := by decide +kernel
theorem dL_law_265 : decode cL_law 265 = .ok (.iadd, 1) := by decide +kernel
theorem dL_law_266 : decode cL_law 266 = .ok (.iaload, 1) := by decide +kernel
theorem dL_law_267 : decode cL_law 267 = .ok (.aload_n 0, 1) := by decide +kernel
theorem dL_law_268 : decode cL_law 268 = .ok (.iload 4, 2) := by decide +kernel
theorem dL_law_270 : decode cL_law 270 = .ok (.iconst 2, 1) := by decide +kernel
theorem dL_law_271 : decode cL_law 271 = .ok (.iadd, 1) := by decide +kernel
theorem dL_law_272 : decode cL_law 272 = .ok (.iaload, 1) := by decide +kernel
theorem dL_law_273 : decode cL_law 273 = .ok (.aload_n 0, 1) := by decide +kernel
theorem dL_law_274 : decode cL_law 274 = .ok (.iload 4, 2) := by decide +kernel
theorem dL_law_276 : decode cL_law 276 = .ok (.iconst 3, 1) := by decide +kernel
theorem dL_law_277 : decode cL_law 277 = .ok (.iadd, 1) := by decide +kernel
theorem dL_law_278 : decode cL_law 278 = .ok (.iaload, 1) := by decide +kernel
theorem dL_law_279 : decode cL_law 279 = .ok (.aload_n 0, 1) := by decide +kernel
theorem dL_law_280 : decode cL_law 280 = .ok (.iload 4, 2) := by decide +kernel
theorem dL_law_282 : decode cL_law 282 = .ok (.iconst 4, 1) := by decide +kernel
theorem dL_law_283 : decode cL_law 283 = .ok (.iadd, 1) := by decide +kernel
theorem dL_law_284 : decode cL_law 284 = .ok (.iaload, 1) := by decide +kernel
theorem dL_law_285 : decode cL_law 285 = .ok (.aload_n 0, 1) := by decide +kernel
theorem dL_law_286 : decode cL_law 286 = .ok (.iload 4, 2) := by decide +kernel
theorem dL_law_288 : decode cL_law 288 = .ok (.iconst 5, 1) := by decide +kernel
theorem dL_law_289 : decode cL_law 289 = .ok (.iadd, 1) := by decide +kernel
theorem dL_law_290 : decode cL_law 290 = .ok (.iaload, 1) := by decide +kernel
theorem dL_law_291 : decode cL_law 291 = .ok (.invokevirtual 19, 3) := by decide +kernel
theorem dL_law_294 : decode cL_law 294 = .ok (.aload_n 2, 1) := by decide +kernel
theorem dL_law_295 : decode cL_law 295 = .ok (.aload_n 0, 1) := by decide +kernel
theorem dL_law_296 : decode cL_law 296 = .ok (.iload 4, 2) := by decide +kernel
theorem dL_law_298 : decode cL_law 298 = .ok (.iconst 1, 1) := by decide +kernel
theorem dL_law_299 : decode cL_law 299 = .ok (.iadd, 1) := by decide +kernel
theorem dL_law_300 : decode cL_law 300 = .ok (.iaload, 1) := by decide +kernel
theorem dL_law_301 : decode cL_law 301 = .ok (.aload_n 0, 1) := by decide +kernel
theorem dL_law_302 : decode cL_law 302 = .ok (.iload 4, 2) := by decide +kernel
theorem dL_law_304 : decode cL_law 304 = .ok (.iconst 2, 1) := by decide +kernel
theorem dL_law_305 : decode cL_law 305 = .ok (.iadd, 1) := by decide +kernel
theorem dL_law_306 : decode cL_law 306 = .ok (.iaload, 1) := by decide +kernel
theorem dL_law_307 : decode cL_law 307 = .ok (.aload_n 0, 1) := by decide +kernel
theorem dL_law_308 : decode cL_law 308 = .ok (.iload 4, 2) := by decide +kernel
theorem dL_law_310 : decode cL_law 310 = .ok (.iconst 3, 1) := by decide +kernel
theorem dL_law_311 : decode cL_law 311 = .ok (.iadd, 1) := by decide +kernel
theorem dL_law_312 : decode cL_law 312 = .ok (.iaload, 1) := by decide +kernel
theorem dL_law_313 : decode cL_law 313 = .ok (.aload_n 0, 1) := by decide +kernel
theorem dL_law_314 : decode cL_law 314 = .ok (.iload 4, 2) := by decide +kernel
theorem dL_law_316 : decode cL_law 316 = .ok (.iconst 4, 1) := by decide +kernel
theorem dL_law_317 : decode cL_law 317 = .ok (.iadd, 1) := by decide +kernel
theorem dL_law_318 : decode cL_law 318 = .ok (.iaload, 1) := by decide +kernel
theorem dL_law_319 : decode cL_law 319 = .ok (.aload_n 0, 1) := by decide +kernel
theorem dL_law_320 : decode cL_law 320 = .ok (.iload 4, 2) := by decide +kernel
theorem dL_law_322 : decode cL_law 322 = .ok (.iconst 5, 1) := by decide +kernel
theorem dL_law_323 : decode cL_law 323 = .ok (.iadd, 1) := by decide +kernel
theorem dL_law_324 : decode cL_law 324 = .ok (.iaload, 1) := by decide +kernel
theorem dL_law_325 : decode cL_law 325 = .ok (.invokevirtual 23, 3) := by decide +kernel
theorem dL_law_328 : decode cL_law 328 = .ok (.if_icmp .eq 1521, 3) := by decide +kernel
theorem dL_law_331 : decode cL_law 331 = .ok (.iconst 0, 1) := by decide +kernel
theorem dL_law_332 : decode cL_law 332 = .ok (.ireturn, 1) := by decide +kernel
theorem dL_law_333 : decode cL_law 333 = .ok (.aload_n 1, 1) := by decide +kernel
theorem dL_law_334 : decode cL_law 334 = .ok (.aload_n 0, 1) := by decide +kernel
theorem dL_law_335 : decode cL_law 335 = .ok (.iload 4, 2) := by decide +kernel
theorem dL_law_337 : decode cL_law 337 = .ok (.iconst 1, 1) := by decide +kernel
theorem dL_law_338 : decode cL_law 338 = .ok (.iadd, 1) := by decide +kernel
theorem dL_law_339 : decode cL_law 339 = .ok (.iaload, 1) := by decide +kernel
theorem dL_law_340 : decode cL_law 340 = .ok (.invokevirtual 24, 3) := by decide +kernel
theorem dL_law_343 : decode cL_law 343 = .ok (.aload_n 2, 1) := by decide +kernel
theorem dL_law_344 : decode cL_law 344 = .ok (.aload_n 0, 1) := by decide +kernel
theorem dL_law_345 : decode cL_law 345 = .ok (.iload 4, 2) := by decide +kernel
theorem dL_law_347 : decode cL_law 347 = .ok (.iconst 1, 1) := by decide +kernel
theorem dL_law_348 : decode cL_law 348 = .ok (.iadd, 1) := by decide +kernel
theorem dL_law_349 : decode cL_law 349 = .ok (.iaload, 1) := by decide +kernel
theorem dL_law_350 : decode cL_law 350 = .ok (.invokevirtual 27, 3) := by decide +kernel
theorem dL_law_353 : decode cL_law 353 = .ok (.if_icmp .eq 1496, 3) := by decide +kernel
theorem dL_law_356 : decode cL_law 356 = .ok (.iconst 0, 1) := by decide +kernel
theorem dL_law_357 : decode cL_law 357 = .ok (.ireturn, 1) := by decide +kernel
theorem dL_law_358 : decode cL_law 358 = .ok (.aload_n 1, 1) := by decide +kernel
theorem dL_law_359 : decode cL_law 359 = .ok (.invokevirtual 28, 3) := by decide +kernel
theorem dL_law_362 : decode cL_law 362 = .ok (.aload_n 2, 1) := by decide +kernel
theorem dL_law_363 : decode cL_law 363 = .ok (.invokevirtual 32, 3) := by decide +kernel
theorem dL_law_366 : decode cL_law 366 = .ok (.if_icmp .eq 1483, 3) := by decide +kernel
theorem dL_law_369 : decode cL_law 369 = .ok (.iconst 0, 1) := by decide +kernel
theorem dL_law_370 : decode cL_law 370 = .ok (.ireturn, 1) := by decide +kernel
theorem dL_law_371 : decode cL_law 371 = .ok (.aload_n 1, 1) := by decide +kernel
theorem dL_law_372 : decode cL_law 372 = .ok (.invokevirtual 33, 3) := by decide +kernel
theorem dL_law_375 : decode cL_law 375 = .ok (.aload_n 2, 1) := by decide +kernel
theorem dL_law_376 : decode cL_law 376 = .ok (.invokevirtual 36, 3) := by decide +kernel
theorem dL_law_379 : decode cL_law 379 = .ok (.if_icmp .eq 1470, 3) := by decide +kernel
theorem dL_law_382 : decode cL_law 382 = .ok (.iconst 0, 1) := by decide +kernel
theorem dL_law_383 : decode cL_law 383 = .ok (.ireturn, 1) := by decide +kernel
theorem dL_law_384 : decode cL_law 384 = .ok (.aload_n 1, 1) := by decide +kernel
theorem dL_law_385 : decode cL_law 385 = .ok (.aload_n 0, 1) := by decide +kernel
theorem dL_law_386 : decode cL_law 386 = .ok (.iload 4, 2) := by decide +kernel
theorem dL_law_388 : decode cL_law 388 = .ok (.iconst 1, 1) := by decide +kernel
theorem dL_law_389 : decode cL_law 389 = .ok (.iadd, 1) := by decide +kernel
theorem dL_law_390 : decode cL_law 390 = .ok (.iaload, 1) := by decide +kernel
theorem dL_law_391 : decode cL_law 391 = .ok (.aload_n 0, 1) := by decide +kernel
theorem dL_law_392 : decode cL_law 392 = .ok (.iload 4, 2) := by decide +kernel
theorem dL_law_394 : decode cL_law 394 = .ok (.iconst 2, 1) := by decide +kernel
theorem dL_law_395 : decode cL_law 395 = .ok (.iadd, 1) := by decide +kernel
theorem dL_law_396 : decode cL_law 396 = .ok (.iaload, 1) := by decide +kernel
theorem dL_law_397 : decode cL_law 397 = .ok (.invokevirtual 37, 3) := by decide +kernel
theorem dL_law_400 : decode cL_law 400 = .ok (.aload_n 2, 1) := by decide +kernel
theorem dL_law_401 : decode cL_law 401 = .ok (.aload_n 0, 1) := by decide +kernel
theorem dL_law_402 : decode cL_law 402 = .ok (.iload 4, 2) := by decide +kernel
theorem dL_law_404 : decode cL_law 404 = .ok (.iconst 1, 1) := by decide +kernel
theorem dL_law_405 : decode cL_law 405 = .ok (.iadd, 1) := by decide +kernel
theorem dL_law_406 : decode cL_law 406 = .ok (.iaload, 1) := by decide +kernel
theorem dL_law_407 : decode cL_law 407 = .ok (.aload_n 0, 1) := by decide +kernel
theorem dL_law_408 : decode cL_law 408 = .ok (.iload 4, 2) := by decide +kernel
theorem dL_law_410 : decode cL_law 410 = .ok (.iconst 2, 1) := by decide +kernel
theorem dL_law_411 : decode cL_law 411 = .ok (.iadd, 1) := by decide +kernel
theorem dL_law_412 : decode cL_law 412 = .ok (.iaload, 1) := by decide +kernel
theorem dL_law_413 : decode cL_law 413 = .ok (.invokevirtual 41, 3) := by decide +kernel
theorem dL_law_416 : decode cL_law 416 = .ok (.if_icmp .eq 1433, 3) := by decide +kernel
theorem dL_law_419 : decode cL_law 419 = .ok (.iconst 0, 1) := by decide +kernel
theorem dL_law_420 : decode cL_law 420 = .ok (.ireturn, 1) := by decide +kernel
theorem dL_law_421 : decode cL_law 421 = .ok (.aload_n 1, 1) := by decide +kernel
theorem dL_law_422 : decode cL_law 422 = .ok (.aload_n 0, 1) := by decide +kernel
theorem dL_law_423 : decode cL_law 423 = .ok (.iload 4, 2) := by decide +kernel
theorem dL_law_425 : decode cL_law 425 = .ok (.iconst 1, 1) := by decide +kernel
theorem dL_law_426 : decode cL_law 426 = .ok (.iadd, 1) := by decide +kernel
theorem dL_law_427 : decode cL_law 427 = .ok (.iaload, 1) := by decide +kernel
theorem dL_law_428 : decode cL_law 428 = .ok (.aload_n 0, 1) := by decide +kernel
theorem dL_law_429 : decode cL_law 429 = .ok (.iload 4, 2) := by decide +kernel
theorem dL_law_431 : decode cL_law 431 = .ok (.iconst 2, 1) := by decide +kernel
theorem dL_law_432 : decode cL_law 432 = .ok (.iadd, 1) := by decide +kernel
theorem dL_law_433 : decode cL_law 433 = .ok (.iaload, 1) := by decide +kernel
theorem dL_law_434 : decode cL_law 434 = .ok (.invokevirtual 42, 3) := by decide +kernel
theorem dL_law_437 : decode cL_law 437 = .ok (.aload_n 2, 1) := by decide +kernel
theorem dL_law_438 : decode cL_law 438 = .ok (.aload_n 0, 1) := by decide +kernel
theorem dL_law_439 : decode cL_law 439 = .ok (.iload 4, 2) := by decide +kernel
theorem dL_law_441 : decode cL_law 441 = .ok (.iconst 1, 1) := by decide +kernel
theorem dL_law_442 : decode cL_law 442 = .ok (.iadd, 1) := by decide +kernel
theorem dL_law_443 : decode cL_law 443 = .ok (.iaload, 1) := by decide +kernel
theorem dL_law_444 : decode cL_law 444 = .ok (.aload_n 0, 1) := by decide +kernel
theorem dL_law_445 : decode cL_law 445 = .ok (.iload 4, 2) := by decide +kernel
theorem dL_law_447 : decode cL_law 447 = .ok (.iconst 2, 1) := by decide +kernel
theorem dL_law_448 : decode cL_law 448 = .ok (.iadd, 1) := by decide +kernel
theorem dL_law_449 : decode cL_law 449 = .ok (.iaload, 1) := by decide +kernel
theorem dL_law_450 : decode cL_law 450 = .ok (.invokevirtual 45, 3) := by decide +kernel
theorem dL_law_453 : decode cL_law 453 = .ok (.if_icmp .eq 1396, 3) := by decide +kernel
theorem dL_law_456 : decode cL_law 456 = .ok (.iconst 0, 1) := by decide +kernel
theorem dL_law_457 : decode cL_law 457 = .ok (.ireturn, 1) := by decide +kernel
theorem dL_law_458 : decode cL_law 458 = .ok (.aload_n 1, 1) := by decide +kernel
theorem dL_law_459 : decode cL_law 459 = .ok (.aload_n 0, 1) := by decide +kernel
theorem dL_law_460 : decode cL_law 460 = .ok (.iload 4, 2) := by decide +kernel
theorem dL_law_462 : decode cL_law 462 = .ok (.iconst 1, 1) := by decide +kernel
theorem dL_law_463 : decode cL_law 463 = .ok (.iadd, 1) := by decide +kernel
theorem dL_law_464 : decode cL_law 464 = .ok (.iaload, 1) := by decide +kernel
theorem dL_law_465 : decode cL_law 465 = .ok (.aload_n 0, 1) := by decide +kernel
theorem dL_law_466 : decode cL_law 466 = .ok (.iload 4, 2) := by decide +kernel
theorem dL_law_468 : decode cL_law 468 = .ok (.iconst 2, 1) := by decide +kernel
theorem dL_law_469 : decode cL_law 469 = .ok (.iadd, 1) := by decide +kernel
theorem dL_law_470 : decode cL_law 470 = .ok (.iaload, 1) := by decide +kernel
theorem dL_law_471 : decode cL_law 471 = .ok (.invokevirtual 46, 3) := by decide +kernel
theorem dL_law_474 : decode cL_law 474 = .ok (.aload_n 2, 1) := by decide +kernel
theorem dL_law_475 : decode cL_law 475 = .ok (.aload_n 0, 1) := by decide +kernel
theorem dL_law_476 : decode cL_law 476 = .ok (.iload 4, 2) := by decide +kernel
theorem dL_law_478 : decode cL_law 478 = .ok (.iconst 1, 1) := by decide +kernel
theorem dL_law_479 : decode cL_law 479 = .ok (.iadd, 1) := by decide +kernel
theorem dL_law_480 : decode cL_law 480 = .ok (.iaload, 1) := by decide +kernel
theorem dL_law_481 : decode cL_law 481 = .ok (.aload_n 0, 1) := by decide +kernel
theorem dL_law_482 : decode cL_law 482 = .ok (.iload 4, 2) := by decide +kernel
theorem dL_law_484 : decode cL_law 484 = .ok (.iconst 2, 1) := by decide +kernel
theorem dL_law_485 : decode cL_law 485 = .ok (.iadd, 1) := by decide +kernel
theorem dL_law_486 : decode cL_law 486 = .ok (.iaload, 1) := by decide +kernel
theorem dL_law_487 : decode cL_law 487 = .ok (.invokevirtual 49, 3) := by decide +kernel
theorem dL_law_490 : decode cL_law 490 = .ok (.if_icmp .eq 1359, 3) := by decide +kernel
theorem dL_law_493 : decode cL_law 493 = .ok (.iconst 0, 1) := by decide +kernel
theorem dL_law_494 : decode cL_law 494 = .ok (.ireturn, 1) := by decide +kernel
theorem dL_law_495 : decode cL_law 495 = .ok (.aload_n 1, 1) := by decide +kernel
theorem dL_law_496 : decode cL_law 496 = .ok (.aload_n 0, 1) := by decide +kernel
theorem dL_law_497 : decode cL_law 497 = .ok (.iload 4, 2) := by decide +kernel
theorem dL_law_499 : decode cL_law 499 = .ok (.iconst 1, 1) := by decide +kernel
theorem dL_law_500 : decode cL_law 500 = .ok (.iadd, 1) := by decide +kernel
theorem dL_law_501 : decode cL_law 501 = .ok (.iaload, 1) := by decide +kernel
theorem dL_law_502 : decode cL_law 502 = .ok (.aload_n 0, 1) := by decide +kernel
theorem dL_law_503 : decode cL_law 503 = .ok (.iload 4, 2) := by decide +kernel
theorem dL_law_505 : decode cL_law 505 = .ok (.iconst 2, 1) := by decide +kernel
theorem dL_law_506 : decode cL_law 506 = .ok (.iadd, 1) := by decide +kernel
theorem dL_law_507 : decode cL_law 507 = .ok (.iaload, 1) := by decide +kernel
theorem dL_law_508 : decode cL_law 508 = .ok (.invokevirtual 50, 3) := by decide +kernel
theorem dL_law_511 : decode cL_law 511 = .ok (.aload_n 2, 1) := by decide +kernel
theorem dL_law_512 : decode cL_law 512 = .ok (.aload_n 0, 1) := by decide +kernel
theorem dL_law_513 : decode cL_law 513 = .ok (.iload 4, 2) := by decide +kernel
theorem dL_law_515 : decode cL_law 515 = .ok (.iconst 1, 1) := by decide +kernel
theorem dL_law_516 : decode cL_law 516 = .ok (.iadd, 1) := by decide +kernel
theorem dL_law_517 : decode cL_law 517 = .ok (.iaload, 1) := by decide +kernel
theorem dL_law_518 : decode cL_law 518 = .ok (.aload_n 0, 1) := by decide +kernel
theorem dL_law_519 : decode cL_law 519 = .ok (.iload 4, 2) := by decide +kernel
theorem dL_law_521 : decode cL_law 521 = .ok (.iconst 2, 1) := by decide +kernel
theorem dL_law_522 : decode cL_law 522 = .ok (.iadd, 1) := by decide +kernel
theorem dL_law_523 : decode cL_law 523 = .ok (.iaload, 1) := by decide +kernel
theorem dL_law_524 : decode cL_law 524 = .ok (.invokevirtual 53, 3) := by decide +kernel
theorem dL_law_527 : decode cL_law 527 = .ok (.if_icmp .eq 1322, 3) := by decide +kernel
theorem dL_law_530 : decode cL_law 530 = .ok (.iconst 0, 1) := by decide +kernel
theorem dL_law_531 : decode cL_law 531 = .ok (.ireturn, 1) := by decide +kernel
theorem dL_law_532 : decode cL_law 532 = .ok (.aload_n 1, 1) := by decide +kernel
theorem dL_law_533 : decode cL_law 533 = .ok (.aload_n 0, 1) := by decide +kernel
theorem dL_law_534 : decode cL_law 534 = .ok (.iload 4, 2) := by decide +kernel
theorem dL_law_536 : decode cL_law 536 = .ok (.iconst 1, 1) := by decide +kernel
theorem dL_law_537 : decode cL_law 537 = .ok (.iadd, 1) := by decide +kernel
theorem dL_law_538 : decode cL_law 538 = .ok (.iaload, 1) := by decide +kernel
theorem dL_law_539 : decode cL_law 539 = .ok (.aload_n 0, 1) := by decide +kernel
theorem dL_law_540 : decode cL_law 540 = .ok (.iload 4, 2) := by decide +kernel
theorem dL_law_542 : decode cL_law 542 = .ok (.iconst 2, 1) := by decide +kernel
theorem dL_law_543 : decode cL_law 543 = .ok (.iadd, 1) := by decide +kernel
theorem dL_law_544 : decode cL_law 544 = .ok (.iaload, 1) := by decide +kernel
theorem dL_law_545 : decode cL_law 545 = .ok (.aload_n 0, 1) := by decide +kernel
theorem dL_law_546 : decode cL_law 546 = .ok (.iload 4, 2) := by decide +kernel
theorem dL_law_548 : decode cL_law 548 = .ok (.iconst 3, 1) := by decide +kernel
theorem dL_law_549 : decode cL_law 549 = .ok (.iadd, 1) := by decide +kernel
theorem dL_law_550 : decode cL_law 550 = .ok (.iaload, 1) := by decide +kernel
theorem dL_law_551 : decode cL_law 551 = .ok (.ifCond .eq 7, 3) := by decide +kernel
theorem dL_law_554 : decode cL_law 554 = .ok (.iconst 1, 1) := by decide +kernel
theorem dL_law_555 : decode cL_law 555 = .ok (.goto 4, 3) := by decide +kernel
theorem dL_law_558 : decode cL_law 558 = .ok (.iconst 0, 1) := by decide +kernel
theorem dL_law_559 : decode cL_law 559 = .ok (.invokevirtual 54, 3) := by decide +kernel
theorem dL_law_562 : decode cL_law 562 = .ok (.aload_n 2, 1) := by decide +kernel
theorem dL_law_563 : decode cL_law 563 = .ok (.aload_n 0, 1) := by decide +kernel
theorem dL_law_564 : decode cL_law 564 = .ok (.iload 4, 2) := by decide +kernel
theorem dL_law_566 : decode cL_law 566 = .ok (.iconst 1, 1) := by decide +kernel
theorem dL_law_567 : decode cL_law 567 = .ok (.iadd, 1) := by decide +kernel
theorem dL_law_568 : decode cL_law 568 = .ok (.iaload, 1) := by decide +kernel
theorem dL_law_569 : decode cL_law 569 = .ok (.aload_n 0, 1) := by decide +kernel
theorem dL_law_570 : decode cL_law 570 = .ok (.iload 4, 2) := by decide +kernel
theorem dL_law_572 : decode cL_law 572 = .ok (.iconst 2, 1) := by decide +kernel
theorem dL_law_573 : decode cL_law 573 = .ok (.iadd, 1) := by decide +kernel
theorem dL_law_574 : decode cL_law 574 = .ok (.iaload, 1) := by decide +kernel
theorem dL_law_575 : decode cL_law 575 = .ok (.aload_n 0, 1) := by decide +kernel
theorem dL_law_576 : decode cL_law 576 = .ok (.iload 4, 2) := by decide +kernel
theorem dL_law_578 : decode cL_law 578 = .ok (.iconst 3, 1) := by decide +kernel
theorem dL_law_579 : decode cL_law 579 = .ok (.iadd, 1) := by decide +kernel
theorem dL_law_580 : decode cL_law 580 = .ok (.iaload, 1) := by decide +kernel
theorem dL_law_581 : decode cL_law 581 = .ok (.ifCond .eq 7, 3) := by decide +kernel
theorem dL_law_584 : decode cL_law 584 = .ok (.iconst 1, 1) := by decide +kernel
theorem dL_law_585 : decode cL_law 585 = .ok (.goto 4, 3) := by decide +kernel
theorem dL_law_588 : decode cL_law 588 = .ok (.iconst 0, 1) := by decide +kernel
theorem dL_law_589 : decode cL_law 589 = .ok (.invokevirtual 58, 3) := by decide +kernel
theorem dL_law_592 : decode cL_law 592 = .ok (.lcmp, 1) := by decide +kernel
theorem dL_law_593 : decode cL_law 593 = .ok (.ifCond .eq 1256, 3) := by decide +kernel
theorem dL_law_596 : decode cL_law 596 = .ok (.iconst 0, 1) := by decide +kernel
theorem dL_law_597 : decode cL_law 597 = .ok (.ireturn, 1) := by decide +kernel
theorem dL_law_598 : decode cL_law 598 = .ok (.aload_n 1, 1) := by decide +kernel
theorem dL_law_599 : decode cL_law 599 = .ok (.aload_n 0, 1) := by decide +kernel
theorem dL_law_600 : decode cL_law 600 = .ok (.iload 4, 2) := by decide +kernel
theorem dL_law_602 : decode cL_law 602 = .ok (.iconst 1, 1) := by decide +kernel
theorem dL_law_603 : decode cL_law 603 = .ok (.iadd, 1) := by decide +kernel
theorem dL_law_604 : decode cL_law 604 = .ok (.iaload, 1) := by decide +kernel
theorem dL_law_605 : decode cL_law 605 = .ok (.invokevirtual 59, 3) := by decide +kernel
theorem dL_law_608 : decode cL_law 608 = .ok (.aload_n 2, 1) := by decide +kernel
theorem dL_law_609 : decode cL_law 609 = .ok (.aload_n 0, 1) := by decide +kernel
theorem dL_law_610 : decode cL_law 610 = .ok (.iload 4, 2) := by decide +kernel
theorem dL_law_612 : decode cL_law 612 = .ok (.iconst 1, 1) := by decide +kernel
theorem dL_law_613 : decode cL_law 613 = .ok (.iadd, 1) := by decide +kernel
theorem dL_law_614 : decode cL_law 614 = .ok (.iaload, 1) := by decide +kernel
theorem dL_law_615 : decode cL_law 615 = .ok (.invokevirtual 62, 3) := by decide +kernel
theorem dL_law_618 : decode cL_law 618 = .ok (.if_icmp .eq 1231, 3) := by decide +kernel
theorem dL_law_621 : decode cL_law 621 = .ok (.iconst 0, 1) := by decide +kernel
theorem dL_law_622 : decode cL_law 622 = .ok (.ireturn, 1) := by decide +kernel
theorem dL_law_623 : decode cL_law 623 = .ok (.aload_n 1, 1) := by decide +kernel
theorem dL_law_624 : decode cL_law 624 = .ok (.aload_n 0, 1) := by decide +kernel
theorem dL_law_625 : decode cL_law 625 = .ok (.iload 4, 2) := by decide +kernel
theorem dL_law_627 : decode cL_law 627 = .ok (.iconst 1, 1) := by decide +kernel
theorem dL_law_628 : decode cL_law 628 = .ok (.iadd, 1) := by decide +kernel
theorem dL_law_629 : decode cL_law 629 = .ok (.iaload, 1) := by decide +kernel
theorem dL_law_630 : decode cL_law 630 = .ok (.invokevirtual 63, 3) := by decide +kernel
theorem dL_law_633 : decode cL_law 633 = .ok (.aload_n 2, 1) := by decide +kernel
theorem dL_law_634 : decode cL_law 634 = .ok (.aload_n 0, 1) := by decide +kernel
theorem dL_law_635 : decode cL_law 635 = .ok (.iload 4, 2) := by decide +kernel
theorem dL_law_637 : decode cL_law 637 = .ok (.iconst 1, 1) := by decide +kernel
theorem dL_law_638 : decode cL_law 638 = .ok (.iadd, 1) := by decide +kernel
theorem dL_law_639 : decode cL_law 639 = .ok (.iaload, 1) := by decide +kernel
theorem dL_law_640 : decode cL_law 640 = .ok (.invokevirtual 66, 3) := by decide +kernel
theorem dL_law_643 : decode cL_law 643 = .ok (.if_icmp .eq 1206, 3) := by decide +kernel
theorem dL_law_646 : decode cL_law 646 = .ok (.iconst 0, 1) := by decide +kernel
theorem dL_law_647 : decode cL_law 647 = .ok (.ireturn, 1) := by decide +kernel
theorem dL_law_648 : decode cL_law 648 = .ok (.aload_n 1, 1) := by decide +kernel
theorem dL_law_649 : decode cL_law 649 = .ok (.aload_n 0, 1) := by decide +kernel
theorem dL_law_650 : decode cL_law 650 = .ok (.iload 4, 2) := by decide +kernel
theorem dL_law_652 : decode cL_law 652 = .ok (.iconst 1, 1) := by decide +kernel
theorem dL_law_653 : decode cL_law 653 = .ok (.iadd, 1) := by decide +kernel
theorem dL_law_654 : decode cL_law 654 = .ok (.iaload, 1) := by decide +kernel
theorem dL_law_655 : decode cL_law 655 = .ok (.aload_n 0, 1) := by decide +kernel
theorem dL_law_656 : decode cL_law 656 = .ok (.iload 4, 2) := by decide +kernel
theorem dL_law_658 : decode cL_law 658 = .ok (.iconst 2, 1) := by decide +kernel
theorem dL_law_659 : decode cL_law 659 = .ok (.iadd, 1) := by decide +kernel
theorem dL_law_660 : decode cL_law 660 = .ok (.iaload, 1) := by decide +kernel
theorem dL_law_661 : decode cL_law 661 = .ok (.invokevirtual 67, 3) := by decide +kernel
theorem dL_law_664 : decode cL_law 664 = .ok (.aload_n 2, 1) := by decide +kernel
theorem dL_law_665 : decode cL_law 665 = .ok (.aload_n 0, 1) := by decide +kernel
theorem dL_law_666 : decode cL_law 666 = .ok (.iload 4, 2) := by decide +kernel
theorem dL_law_668 : decode cL_law 668 = .ok (.iconst 1, 1) := by decide +kernel
theorem dL_law_669 : decode cL_law 669 = .ok (.iadd, 1) := by decide +kernel
theorem dL_law_670 : decode cL_law 670 = .ok (.iaload, 1) := by decide +kernel
theorem dL_law_671 : decode cL_law 671 = .ok (.aload_n 0, 1) := by decide +kernel
theorem dL_law_672 : decode cL_law 672 = .ok (.iload 4, 2) := by decide +kernel
theorem dL_law_674 : decode cL_law 674 = .ok (.iconst 2, 1) := by decide +kernel
theorem dL_law_675 : decode cL_law 675 = .ok (.iadd, 1) := by decide +kernel
theorem dL_law_676 : decode cL_law 676 = .ok (.iaload, 1) := by decide +kernel
theorem dL_law_677 : decode cL_law 677 = .ok (.invokevirtual 70, 3) := by decide +kernel
theorem dL_law_680 : decode cL_law 680 = .ok (.if_icmp .eq 1169, 3) := by decide +kernel
theorem dL_law_683 : decode cL_law 683 = .ok (.iconst 0, 1) := by decide +kernel
theorem dL_law_684 : decode cL_law 684 = .ok (.ireturn, 1) := by decide +kernel
theorem dL_law_685 : decode cL_law 685 = .ok (.aload_n 1, 1) := by decide +kernel
theorem dL_law_686 : decode cL_law 686 = .ok (.aload_n 0, 1) := by decide +kernel
theorem dL_law_687 : decode cL_law 687 = .ok (.iload 4, 2) := by decide +kernel
theorem dL_law_689 : decode cL_law 689 = .ok (.iconst 1, 1) := by decide +kernel
theorem dL_law_690 : decode cL_law 690 = .ok (.iadd, 1) := by decide +kernel
theorem dL_law_691 : decode cL_law 691 = .ok (.iaload, 1) := by decide +kernel
theorem dL_law_692 : decode cL_law 692 = .ok (.invokevirtual 71, 3) := by decide +kernel
theorem dL_law_695 : decode cL_law 695 = .ok (.aload_n 2, 1) := by decide +kernel
theorem dL_law_696 : decode cL_law 696 = .ok (.aload_n 0, 1) := by decide +kernel
theorem dL_law_697 : decode cL_law 697 = .ok (.iload 4, 2) := by decide +kernel
theorem dL_law_699 : decode cL_law 699 = .ok (.iconst 1, 1) := by decide +kernel
theorem dL_law_700 : decode cL_law 700 = .ok (.iadd, 1) := by decide +kernel
theorem dL_law_701 : decode cL_law 701 = .ok (.iaload, 1) := by decide +kernel
theorem dL_law_702 : decode cL_law 702 = .ok (.invokevirtual 74, 3) := by decide +kernel
theorem dL_law_705 : decode cL_law 705 = .ok (.if_icmp .eq 1144, 3) := by decide +kernel
theorem dL_law_708 : decode cL_law 708 = .ok (.iconst 0, 1) := by decide +kernel
theorem dL_law_709 : decode cL_law 709 = .ok (.ireturn, 1) := by decide +kernel
theorem dL_law_710 : decode cL_law 710 = .ok (.aload_n 1, 1) := by decide +kernel
theorem dL_law_711 : decode cL_law 711 = .ok (.aload_n 0, 1) := by decide +kernel
theorem dL_law_712 : decode cL_law 712 = .ok (.iload 4, 2) := by decide +kernel
theorem dL_law_714 : decode cL_law 714 = .ok (.iconst 1, 1) := by decide +kernel
theorem dL_law_715 : decode cL_law 715 = .ok (.iadd, 1) := by decide +kernel
theorem dL_law_716 : decode cL_law 716 = .ok (.iaload, 1) := by decide +kernel
theorem dL_law_717 : decode cL_law 717 = .ok (.aload_n 0, 1) := by decide +kernel
theorem dL_law_718 : decode cL_law 718 = .ok (.iload 4, 2) := by decide +kernel
theorem dL_law_720 : decode cL_law 720 = .ok (.iconst 2, 1) := by decide +kernel
theorem dL_law_721 : decode cL_law 721 = .ok (.iadd, 1) := by decide +kernel
theorem dL_law_722 : decode cL_law 722 = .ok (.iaload, 1) := by decide +kernel
theorem dL_law_723 : decode cL_law 723 = .ok (.invokevirtual 75, 3) := by decide +kernel
theorem dL_law_726 : decode cL_law 726 = .ok (.aload_n 2, 1) := by decide +kernel
theorem dL_law_727 : decode cL_law 727 = .ok (.aload_n 0, 1) := by decide +kernel
theorem dL_law_728 : decode cL_law 728 = .ok (.iload 4, 2) := by decide +kernel
theorem dL_law_730 : decode cL_law 730 = .ok (.iconst 1, 1) := by decide +kernel
theorem dL_law_731 : decode cL_law 731 = .ok (.iadd, 1) := by decide +kernel
theorem dL_law_732 : decode cL_law 732 = .ok (.iaload, 1) := by decide +kernel
theorem dL_law_733 : decode cL_law 733 = .ok (.aload_n 0, 1) := by decide +kernel
theorem dL_law_734 : decode cL_law 734 = .ok (.iload 4, 2) := by decide +kernel
theorem dL_law_736 : decode cL_law 736 = .ok (.iconst 2, 1) := by decide +kernel
theorem dL_law_737 : decode cL_law 737 = .ok (.iadd, 1) := by decide +kernel
theorem dL_law_738 : decode cL_law 738 = .ok (.iaload, 1) := by decide +kernel
theorem dL_law_739 : decode cL_law 739 = .ok (.invokevirtual 78, 3) := by decide +kernel
theorem dL_law_742 : decode cL_law 742 = .ok (.if_icmp .eq 1107, 3) := by decide +kernel
theorem dL_law_745 : decode cL_law 745 = .ok (.iconst 0, 1) := by decide +kernel
theorem dL_law_746 : decode cL_law 746 = .ok (.ireturn, 1) := by decide +kernel
theorem dL_law_747 : decode cL_law 747 = .ok (.aload_n 1, 1) := by decide +kernel
theorem dL_law_748 : decode cL_law 748 = .ok (.aload_n 0, 1) := by decide +kernel
theorem dL_law_749 : decode cL_law 749 = .ok (.iload 4, 2) := by decide +kernel
theorem dL_law_751 : decode cL_law 751 = .ok (.iconst 1, 1) := by decide +kernel
theorem dL_law_752 : decode cL_law 752 = .ok (.iadd, 1) := by decide +kernel
theorem dL_law_753 : decode cL_law 753 = .ok (.iaload, 1) := by decide +kernel
theorem dL_law_754 : decode cL_law 754 = .ok (.aload_n 0, 1) := by decide +kernel
theorem dL_law_755 : decode cL_law 755 = .ok (.iload 4, 2) := by decide +kernel
theorem dL_law_757 : decode cL_law 757 = .ok (.iconst 2, 1) := by decide +kernel
theorem dL_law_758 : decode cL_law 758 = .ok (.iadd, 1) := by decide +kernel
theorem dL_law_759 : decode cL_law 759 = .ok (.iaload, 1) := by decide +kernel
theorem dL_law_760 : decode cL_law 760 = .ok (.invokevirtual 79, 3) := by decide +kernel
theorem dL_law_763 : decode cL_law 763 = .ok (.aload_n 2, 1) := by decide +kernel
theorem dL_law_764 : decode cL_law 764 = .ok (.aload_n 0, 1) := by decide +kernel
theorem dL_law_765 : decode cL_law 765 = .ok (.iload 4, 2) := by decide +kernel
theorem dL_law_767 : decode cL_law 767 = .ok (.iconst 1, 1) := by decide +kernel
theorem dL_law_768 : decode cL_law 768 = .ok (.iadd, 1) := by decide +kernel
theorem dL_law_769 : decode cL_law 769 = .ok (.iaload, 1) := by decide +kernel
theorem dL_law_770 : decode cL_law 770 = .ok (.aload_n 0, 1) := by decide +kernel
theorem dL_law_771 : decode cL_law 771 = .ok (.iload 4, 2) := by decide +kernel
theorem dL_law_773 : decode cL_law 773 = .ok (.iconst 2, 1) := by decide +kernel
theorem dL_law_774 : decode cL_law 774 = .ok (.iadd, 1) := by decide +kernel
theorem dL_law_775 : decode cL_law 775 = .ok (.iaload, 1) := by decide +kernel
theorem dL_law_776 : decode cL_law 776 = .ok (.invokevirtual 82, 3) := by decide +kernel
theorem dL_law_779 : decode cL_law 779 = .ok (.if_icmp .eq 1070, 3) := by decide +kernel
theorem dL_law_782 : decode cL_law 782 = .ok (.iconst 0, 1) := by decide +kernel
theorem dL_law_783 : decode cL_law 783 = .ok (.ireturn, 1) := by decide +kernel
theorem dL_law_784 : decode cL_law 784 = .ok (.aload_n 1, 1) := by decide +kernel
theorem dL_law_785 : decode cL_law 785 = .ok (.aload_n 0, 1) := by decide +kernel
theorem dL_law_786 : decode cL_law 786 = .ok (.iload 4, 2) := by decide +kernel
theorem dL_law_788 : decode cL_law 788 = .ok (.iconst 1, 1) := by decide +kernel
theorem dL_law_789 : decode cL_law 789 = .ok (.iadd, 1) := by decide +kernel
theorem dL_law_790 : decode cL_law 790 = .ok (.iaload, 1) := by decide +kernel
theorem dL_law_791 : decode cL_law 791 = .ok (.aload_n 0, 1) := by decide +kernel
theorem dL_law_792 : decode cL_law 792 = .ok (.iload 4, 2) := by decide +kernel
theorem dL_law_794 : decode cL_law 794 = .ok (.iconst 2, 1) := by decide +kernel
theorem dL_law_795 : decode cL_law 795 = .ok (.iadd, 1) := by decide +kernel
theorem dL_law_796 : decode cL_law 796 = .ok (.iaload, 1) := by decide +kernel
theorem dL_law_797 : decode cL_law 797 = .ok (.aload_n 0, 1) := by decide +kernel
theorem dL_law_798 : decode cL_law 798 = .ok (.iload 4, 2) := by decide +kernel
theorem dL_law_800 : decode cL_law 800 = .ok (.iconst 3, 1) := by decide +kernel
theorem dL_law_801 : decode cL_law 801 = .ok (.iadd, 1) := by decide +kernel
theorem dL_law_802 : decode cL_law 802 = .ok (.iaload, 1) := by decide +kernel
theorem dL_law_803 : decode cL_law 803 = .ok (.invokevirtual 83, 3) := by decide +kernel
theorem dL_law_806 : decode cL_law 806 = .ok (.aload_n 2, 1) := by decide +kernel
theorem dL_law_807 : decode cL_law 807 = .ok (.aload_n 0, 1) := by decide +kernel
theorem dL_law_808 : decode cL_law 808 = .ok (.iload 4, 2) := by decide +kernel
theorem dL_law_810 : decode cL_law 810 = .ok (.iconst 1, 1) := by decide +kernel
theorem dL_law_811 : decode cL_law 811 = .ok (.iadd, 1) := by decide +kernel
theorem dL_law_812 : decode cL_law 812 = .ok (.iaload, 1) := by decide +kernel
theorem dL_law_813 : decode cL_law 813 = .ok (.aload_n 0, 1) := by decide +kernel
theorem dL_law_814 : decode cL_law 814 = .ok (.iload 4, 2) := by decide +kernel
theorem dL_law_816 : decode cL_law 816 = .ok (.iconst 2, 1) := by decide +kernel
theorem dL_law_817 : decode cL_law 817 = .ok (.iadd, 1) := by decide +kernel
theorem dL_law_818 : decode cL_law 818 = .ok (.iaload, 1) := by decide +kernel
theorem dL_law_819 : decode cL_law 819 = .ok (.aload_n 0, 1) := by decide +kernel
theorem dL_law_820 : decode cL_law 820 = .ok (.iload 4, 2) := by decide +kernel
theorem dL_law_822 : decode cL_law 822 = .ok (.iconst 3, 1) := by decide +kernel
theorem dL_law_823 : decode cL_law 823 = .ok (.iadd, 1) := by decide +kernel
theorem dL_law_824 : decode cL_law 824 = .ok (.iaload, 1) := by decide +kernel
theorem dL_law_825 : decode cL_law 825 = .ok (.invokevirtual 87, 3) := by decide +kernel
theorem dL_law_828 : decode cL_law 828 = .ok (.if_icmp .eq 1021, 3) := by decide +kernel
theorem dL_law_831 : decode cL_law 831 = .ok (.iconst 0, 1) := by decide +kernel
theorem dL_law_832 : decode cL_law 832 = .ok (.ireturn, 1) := by decide +kernel
theorem dL_law_833 : decode cL_law 833 = .ok (.aload_n 1, 1) := by decide +kernel
theorem dL_law_834 : decode cL_law 834 = .ok (.aload_n 0, 1) := by decide +kernel
theorem dL_law_835 : decode cL_law 835 = .ok (.iload 4, 2) := by decide +kernel
theorem dL_law_837 : decode cL_law 837 = .ok (.iconst 1, 1) := by decide +kernel
theorem dL_law_838 : decode cL_law 838 = .ok (.iadd, 1) := by decide +kernel
theorem dL_law_839 : decode cL_law 839 = .ok (.iaload, 1) := by decide +kernel
theorem dL_law_840 : decode cL_law 840 = .ok (.invokevirtual 88, 3) := by decide +kernel
theorem dL_law_843 : decode cL_law 843 = .ok (.aload_n 2, 1) := by decide +kernel
theorem dL_law_844 : decode cL_law 844 = .ok (.aload_n 0, 1) := by decide +kernel
theorem dL_law_845 : decode cL_law 845 = .ok (.iload 4, 2) := by decide +kernel
theorem dL_law_847 : decode cL_law 847 = .ok (.iconst 1, 1) := by decide +kernel
theorem dL_law_848 : decode cL_law 848 = .ok (.iadd, 1) := by decide +kernel
theorem dL_law_849 : decode cL_law 849 = .ok (.iaload, 1) := by decide +kernel
theorem dL_law_850 : decode cL_law 850 = .ok (.invokevirtual 91, 3) := by decide +kernel
theorem dL_law_853 : decode cL_law 853 = .ok (.if_icmp .eq 996, 3) := by decide +kernel
theorem dL_law_856 : decode cL_law 856 = .ok (.iconst 0, 1) := by decide +kernel
theorem dL_law_857 : decode cL_law 857 = .ok (.ireturn, 1) := by decide +kernel
theorem dL_law_858 : decode cL_law 858 = .ok (.aload_n 1, 1) := by decide +kernel
theorem dL_law_859 : decode cL_law 859 = .ok (.aload_n 0, 1) := by decide +kernel
theorem dL_law_860 : decode cL_law 860 = .ok (.iload 4, 2) := by decide +kernel
theorem dL_law_862 : decode cL_law 862 = .ok (.iconst 1, 1) := by decide +kernel
theorem dL_law_863 : decode cL_law 863 = .ok (.iadd, 1) := by decide +kernel
theorem dL_law_864 : decode cL_law 864 = .ok (.iaload, 1) := by decide +kernel
theorem dL_law_865 : decode cL_law 865 = .ok (.aload_n 0, 1) := by decide +kernel
theorem dL_law_866 : decode cL_law 866 = .ok (.iload 4, 2) := by decide +kernel
theorem dL_law_868 : decode cL_law 868 = .ok (.iconst 2, 1) := by decide +kernel
theorem dL_law_869 : decode cL_law 869 = .ok (.iadd, 1) := by decide +kernel
theorem dL_law_870 : decode cL_law 870 = .ok (.iaload, 1) := by decide +kernel
theorem dL_law_871 : decode cL_law 871 = .ok (.ifCond .eq 7, 3) := by decide +kernel
theorem dL_law_874 : decode cL_law 874 = .ok (.iconst 1, 1) := by decide +kernel
theorem dL_law_875 : decode cL_law 875 = .ok (.goto 4, 3) := by decide +kernel
theorem dL_law_878 : decode cL_law 878 = .ok (.iconst 0, 1) := by decide +kernel
theorem dL_law_879 : decode cL_law 879 = .ok (.invokevirtual 92, 3) := by decide +kernel
theorem dL_law_882 : decode cL_law 882 = .ok (.aload_n 2, 1) := by decide +kernel
theorem dL_law_883 : decode cL_law 883 = .ok (.aload_n 0, 1) := by decide +kernel
theorem dL_law_884 : decode cL_law 884 = .ok (.iload 4, 2) := by decide +kernel
theorem dL_law_886 : decode cL_law 886 = .ok (.iconst 1, 1) := by decide +kernel
theorem dL_law_887 : decode cL_law 887 = .ok (.iadd, 1) := by decide +kernel
theorem dL_law_888 : decode cL_law 888 = .ok (.iaload, 1) := by decide +kernel
theorem dL_law_889 : decode cL_law 889 = .ok (.aload_n 0, 1) := by decide +kernel
theorem dL_law_890 : decode cL_law 890 = .ok (.iload 4, 2) := by decide +kernel
theorem dL_law_892 : decode cL_law 892 = .ok (.iconst 2, 1) := by decide +kernel
theorem dL_law_893 : decode cL_law 893 = .ok (.iadd, 1) := by decide +kernel
theorem dL_law_894 : decode cL_law 894 = .ok (.iaload, 1) := by decide +kernel
theorem dL_law_895 : decode cL_law 895 = .ok (.ifCond .eq 7, 3) := by decide +kernel
theorem dL_law_898 : decode cL_law 898 = .ok (.iconst 1, 1) := by decide +kernel
theorem dL_law_899 : decode cL_law 899 = .ok (.goto 4, 3) := by decide +kernel
theorem dL_law_902 : decode cL_law 902 = .ok (.iconst 0, 1) := by decide +kernel
theorem dL_law_903 : decode cL_law 903 = .ok (.invokevirtual 96, 3) := by decide +kernel
theorem dL_law_906 : decode cL_law 906 = .ok (.lcmp, 1) := by decide +kernel
theorem dL_law_907 : decode cL_law 907 = .ok (.ifCond .eq 942, 3) := by decide +kernel
theorem dL_law_910 : decode cL_law 910 = .ok (.iconst 0, 1) := by decide +kernel
theorem dL_law_911 : decode cL_law 911 = .ok (.ireturn, 1) := by decide +kernel
theorem dL_law_912 : decode cL_law 912 = .ok (.aload_n 1, 1) := by decide +kernel
theorem dL_law_913 : decode cL_law 913 = .ok (.aload_n 0, 1) := by decide +kernel
theorem dL_law_914 : decode cL_law 914 = .ok (.iload 4, 2) := by decide +kernel
theorem dL_law_916 : decode cL_law 916 = .ok (.iconst 1, 1) := by decide +kernel
theorem dL_law_917 : decode cL_law 917 = .ok (.iadd, 1) := by decide +kernel
theorem dL_law_918 : decode cL_law 918 = .ok (.iaload, 1) := by decide +kernel
theorem dL_law_919 : decode cL_law 919 = .ok (.aload_n 0, 1) := by decide +kernel
theorem dL_law_920 : decode cL_law 920 = .ok (.iload 4, 2) := by decide +kernel
theorem dL_law_922 : decode cL_law 922 = .ok (.iconst 2, 1) := by decide +kernel
theorem dL_law_923 : decode cL_law 923 = .ok (.iadd, 1) := by decide +kernel
theorem dL_law_924 : decode cL_law 924 = .ok (.iaload, 1) := by decide +kernel
theorem dL_law_925 : decode cL_law 925 = .ok (.ifCond .eq 7, 3) := by decide +kernel
theorem dL_law_928 : decode cL_law 928 = .ok (.iconst 1, 1) := by decide +kernel
theorem dL_law_929 : decode cL_law 929 = .ok (.goto 4, 3) := by decide +kernel
theorem dL_law_932 : decode cL_law 932 = .ok (.iconst 0, 1) := by decide +kernel
theorem dL_law_933 : decode cL_law 933 = .ok (.invokevirtual 97, 3) := by decide +kernel
theorem dL_law_936 : decode cL_law 936 = .ok (.aload_n 2, 1) := by decide +kernel
theorem dL_law_937 : decode cL_law 937 = .ok (.aload_n 0, 1) := by decide +kernel
theorem dL_law_938 : decode cL_law 938 = .ok (.iload 4, 2) := by decide +kernel
theorem dL_law_940 : decode cL_law 940 = .ok (.iconst 1, 1) := by decide +kernel
theorem dL_law_941 : decode cL_law 941 = .ok (.iadd, 1) := by decide +kernel
theorem dL_law_942 : decode cL_law 942 = .ok (.iaload, 1) := by decide +kernel
theorem dL_law_943 : decode cL_law 943 = .ok (.aload_n 0, 1) := by decide +kernel
theorem dL_law_944 : decode cL_law 944 = .ok (.iload 4, 2) := by decide +kernel
theorem dL_law_946 : decode cL_law 946 = .ok (.iconst 2, 1) := by decide +kernel
theorem dL_law_947 : decode cL_law 947 = .ok (.iadd, 1) := by decide +kernel
theorem dL_law_948 : decode cL_law 948 = .ok (.iaload, 1) := by decide +kernel
theorem dL_law_949 : decode cL_law 949 = .ok (.ifCond .eq 7, 3) := by decide +kernel
theorem dL_law_952 : decode cL_law 952 = .ok (.iconst 1, 1) := by decide +kernel
theorem dL_law_953 : decode cL_law 953 = .ok (.goto 4, 3) := by decide +kernel
theorem dL_law_956 : decode cL_law 956 = .ok (.iconst 0, 1) := by decide +kernel
theorem dL_law_957 : decode cL_law 957 = .ok (.invokevirtual 100, 3) := by decide +kernel
theorem dL_law_960 : decode cL_law 960 = .ok (.lcmp, 1) := by decide +kernel
theorem dL_law_961 : decode cL_law 961 = .ok (.ifCond .eq 888, 3) := by decide +kernel
theorem dL_law_964 : decode cL_law 964 = .ok (.iconst 0, 1) := by decide +kernel
theorem dL_law_965 : decode cL_law 965 = .ok (.ireturn, 1) := by decide +kernel
theorem dL_law_966 : decode cL_law 966 = .ok (.aload_n 1, 1) := by decide +kernel
theorem dL_law_967 : decode cL_law 967 = .ok (.aload_n 0, 1) := by decide +kernel
theorem dL_law_968 : decode cL_law 968 = .ok (.iload 4, 2) := by decide +kernel
theorem dL_law_970 : decode cL_law 970 = .ok (.iconst 1, 1) := by decide +kernel
theorem dL_law_971 : decode cL_law 971 = .ok (.iadd, 1) := by decide +kernel
theorem dL_law_972 : decode cL_law 972 = .ok (.iaload, 1) := by decide +kernel
theorem dL_law_973 : decode cL_law 973 = .ok (.aload_n 0, 1) := by decide +kernel
theorem dL_law_974 : decode cL_law 974 = .ok (.iload 4, 2) := by decide +kernel
theorem dL_law_976 : decode cL_law 976 = .ok (.iconst 2, 1) := by decide +kernel
theorem dL_law_977 : decode cL_law 977 = .ok (.iadd, 1) := by decide +kernel
theorem dL_law_978 : decode cL_law 978 = .ok (.iaload, 1) := by decide +kernel
theorem dL_law_979 : decode cL_law 979 = .ok (.invokevirtual 101, 3) := by decide +kernel
theorem dL_law_982 : decode cL_law 982 = .ok (.aload_n 2, 1) := by decide +kernel
theorem dL_law_983 : decode cL_law 983 = .ok (.aload_n 0, 1) := by decide +kernel
theorem dL_law_984 : decode cL_law 984 = .ok (.iload 4, 2) := by decide +kernel
theorem dL_law_986 : decode cL_law 986 = .ok (.iconst 1, 1) := by decide +kernel
theorem dL_law_987 : decode cL_law 987 = .ok (.iadd, 1) := by decide +kernel
theorem dL_law_988 : decode cL_law 988 = .ok (.iaload, 1) := by decide +kernel
theorem dL_law_989 : decode cL_law 989 = .ok (.aload_n 0, 1) := by decide +kernel
theorem dL_law_990 : decode cL_law 990 = .ok (.iload 4, 2) := by decide +kernel
theorem dL_law_992 : decode cL_law 992 = .ok (.iconst 2, 1) := by decide +kernel
theorem dL_law_993 : decode cL_law 993 = .ok (.iadd, 1) := by decide +kernel
theorem dL_law_994 : decode cL_law 994 = .ok (.iaload, 1) := by decide +kernel
theorem dL_law_995 : decode cL_law 995 = .ok (.invokevirtual 104, 3) := by decide +kernel
theorem dL_law_998 : decode cL_law 998 = .ok (.if_icmp .eq 851, 3) := by decide +kernel
theorem dL_law_1001 : decode cL_law 1001 = .ok (.iconst 0, 1) := by decide +kernel
theorem dL_law_1002 : decode cL_law 1002 = .ok (.ireturn, 1) := by decide +kernel
theorem dL_law_1003 : decode cL_law 1003 = .ok (.aload_n 1, 1) := by decide +kernel
theorem dL_law_1004 : decode cL_law 1004 = .ok (.aload_n 0, 1) := by decide +kernel
theorem dL_law_1005 : decode cL_law 1005 = .ok (.iload 4, 2) := by decide +kernel
theorem dL_law_1007 : decode cL_law 1007 = .ok (.iconst 1, 1) := by decide +kernel
theorem dL_law_1008 : decode cL_law 1008 = .ok (.iadd, 1) := by decide +kernel
theorem dL_law_1009 : decode cL_law 1009 = .ok (.iaload, 1) := by decide +kernel
theorem dL_law_1010 : decode cL_law 1010 = .ok (.invokevirtual 105, 3) := by decide +kernel
theorem dL_law_1013 : decode cL_law 1013 = .ok (.aload_n 2, 1) := by decide +kernel
theorem dL_law_1014 : decode cL_law 1014 = .ok (.aload_n 0, 1) := by decide +kernel
theorem dL_law_1015 : decode cL_law 1015 = .ok (.iload 4, 2) := by decide +kernel
theorem dL_law_1017 : decode cL_law 1017 = .ok (.iconst 1, 1) := by decide +kernel
theorem dL_law_1018 : decode cL_law 1018 = .ok (.iadd, 1) := by decide +kernel
theorem dL_law_1019 : decode cL_law 1019 = .ok (.iaload, 1) := by decide +kernel
theorem dL_law_1020 : decode cL_law 1020 = .ok (.invokevirtual 108, 3) := by decide +kernel
theorem dL_law_1023 : decode cL_law 1023 = .ok (.if_icmp .eq 826, 3) := by decide +kernel
theorem dL_law_1026 : decode cL_law 1026 = .ok (.iconst 0, 1) := by decide +kernel
theorem dL_law_1027 : decode cL_law 1027 = .ok (.ireturn, 1) := by decide +kernel
theorem dL_law_1028 : decode cL_law 1028 = .ok (.aload_n 1, 1) := by decide +kernel
theorem dL_law_1029 : decode cL_law 1029 = .ok (.aload_n 0, 1) := by decide +kernel
theorem dL_law_1030 : decode cL_law 1030 = .ok (.iload 4, 2) := by decide +kernel
theorem dL_law_1032 : decode cL_law 1032 = .ok (.iconst 1, 1) := by decide +kernel
theorem dL_law_1033 : decode cL_law 1033 = .ok (.iadd, 1) := by decide +kernel
theorem dL_law_1034 : decode cL_law 1034 = .ok (.iaload, 1) := by decide +kernel
theorem dL_law_1035 : decode cL_law 1035 = .ok (.invokevirtual 109, 3) := by decide +kernel
theorem dL_law_1038 : decode cL_law 1038 = .ok (.aload_n 2, 1) := by decide +kernel
theorem dL_law_1039 : decode cL_law 1039 = .ok (.aload_n 0, 1) := by decide +kernel
theorem dL_law_1040 : decode cL_law 1040 = .ok (.iload 4, 2) := by decide +kernel
theorem dL_law_1042 : decode cL_law 1042 = .ok (.iconst 1, 1) := by decide +kernel
theorem dL_law_1043 : decode cL_law 1043 = .ok (.iadd, 1) := by decide +kernel
theorem dL_law_1044 : decode cL_law 1044 = .ok (.iaload, 1) := by decide +kernel
theorem dL_law_1045 : decode cL_law 1045 = .ok (.invokevirtual 112, 3) := by decide +kernel
theorem dL_law_1048 : decode cL_law 1048 = .ok (.if_icmp .eq 801, 3) := by decide +kernel
theorem dL_law_1051 : decode cL_law 1051 = .ok (.iconst 0, 1) := by decide +kernel
theorem dL_law_1052 : decode cL_law 1052 = .ok (.ireturn, 1) := by decide +kernel
theorem dL_law_1053 : decode cL_law 1053 = .ok (.aload_n 1, 1) := by decide +kernel
theorem dL_law_1054 : decode cL_law 1054 = .ok (.aload_n 0, 1) := by decide +kernel
theorem dL_law_1055 : decode cL_law 1055 = .ok (.iload 4, 2) := by decide +kernel
theorem dL_law_1057 : decode cL_law 1057 = .ok (.iconst 1, 1) := by decide +kernel
theorem dL_law_1058 : decode cL_law 1058 = .ok (.iadd, 1) := by decide +kernel
theorem dL_law_1059 : decode cL_law 1059 = .ok (.iaload, 1) := by decide +kernel
theorem dL_law_1060 : decode cL_law 1060 = .ok (.aload_n 0, 1) := by decide +kernel
theorem dL_law_1061 : decode cL_law 1061 = .ok (.iload 4, 2) := by decide +kernel
theorem dL_law_1063 : decode cL_law 1063 = .ok (.iconst 2, 1) := by decide +kernel
theorem dL_law_1064 : decode cL_law 1064 = .ok (.iadd, 1) := by decide +kernel
theorem dL_law_1065 : decode cL_law 1065 = .ok (.iaload, 1) := by decide +kernel
theorem dL_law_1066 : decode cL_law 1066 = .ok (.invokevirtual 113, 3) := by decide +kernel
theorem dL_law_1069 : decode cL_law 1069 = .ok (.aload_n 2, 1) := by decide +kernel
theorem dL_law_1070 : decode cL_law 1070 = .ok (.aload_n 0, 1) := by decide +kernel
theorem dL_law_1071 : decode cL_law 1071 = .ok (.iload 4, 2) := by decide +kernel
theorem dL_law_1073 : decode cL_law 1073 = .ok (.iconst 1, 1) := by decide +kernel
theorem dL_law_1074 : decode cL_law 1074 = .ok (.iadd, 1) := by decide +kernel
theorem dL_law_1075 : decode cL_law 1075 = .ok (.iaload, 1) := by decide +kernel
theorem dL_law_1076 : decode cL_law 1076 = .ok (.aload_n 0, 1) := by decide +kernel
theorem dL_law_1077 : decode cL_law 1077 = .ok (.iload 4, 2) := by decide +kernel
theorem dL_law_1079 : decode cL_law 1079 = .ok (.iconst 2, 1) := by decide +kernel
theorem dL_law_1080 : decode cL_law 1080 = .ok (.iadd, 1) := by decide +kernel
theorem dL_law_1081 : decode cL_law 1081 = .ok (.iaload, 1) := by decide +kernel
theorem dL_law_1082 : decode cL_law 1082 = .ok (.invokevirtual 116, 3) := by decide +kernel
theorem dL_law_1085 : decode cL_law 1085 = .ok (.if_icmp .eq 764, 3) := by decide +kernel
theorem dL_law_1088 : decode cL_law 1088 = .ok (.iconst 0, 1) := by decide +kernel
theorem dL_law_1089 : decode cL_law 1089 = .ok (.ireturn, 1) := by decide +kernel
theorem dL_law_1090 : decode cL_law 1090 = .ok (.aload_n 1, 1) := by decide +kernel
theorem dL_law_1091 : decode cL_law 1091 = .ok (.invokevirtual 117, 3) := by decide +kernel
theorem dL_law_1094 : decode cL_law 1094 = .ok (.aload_n 2, 1) := by decide +kernel
theorem dL_law_1095 : decode cL_law 1095 = .ok (.invokevirtual 120, 3) := by decide +kernel
theorem dL_law_1098 : decode cL_law 1098 = .ok (.if_icmp .eq 751, 3) := by decide +kernel
theorem dL_law_1101 : decode cL_law 1101 = .ok (.iconst 0, 1) := by decide +kernel
theorem dL_law_1102 : decode cL_law 1102 = .ok (.ireturn, 1) := by decide +kernel
theorem dL_law_1103 : decode cL_law 1103 = .ok (.aload_n 1, 1) := by decide +kernel
theorem dL_law_1104 : decode cL_law 1104 = .ok (.aload_n 0, 1) := by decide +kernel
theorem dL_law_1105 : decode cL_law 1105 = .ok (.iload 4, 2) := by decide +kernel
theorem dL_law_1107 : decode cL_law 1107 = .ok (.iconst 1, 1) := by decide +kernel
theorem dL_law_1108 : decode cL_law 1108 = .ok (.iadd, 1) := by decide +kernel
theorem dL_law_1109 : decode cL_law 1109 = .ok (.iaload, 1) := by decide +kernel
theorem dL_law_1110 : decode cL_law 1110 = .ok (.invokevirtual 121, 3) := by decide +kernel
theorem dL_law_1113 : decode cL_law 1113 = .ok (.aload_n 2, 1) := by decide +kernel
theorem dL_law_1114 : decode cL_law 1114 = .ok (.aload_n 0, 1) := by decide +kernel
theorem dL_law_1115 : decode cL_law 1115 = .ok (.iload 4, 2) := by decide +kernel
theorem dL_law_1117 : decode cL_law 1117 = .ok (.iconst 1, 1) := by decide +kernel
theorem dL_law_1118 : decode cL_law 1118 = .ok (.iadd, 1) := by decide +kernel
theorem dL_law_1119 : decode cL_law 1119 = .ok (.iaload, 1) := by decide +kernel
theorem dL_law_1120 : decode cL_law 1120 = .ok (.invokevirtual 124, 3) := by decide +kernel
theorem dL_law_1123 : decode cL_law 1123 = .ok (.if_icmp .eq 726, 3) := by decide +kernel
theorem dL_law_1126 : decode cL_law 1126 = .ok (.iconst 0, 1) := by decide +kernel
theorem dL_law_1127 : decode cL_law 1127 = .ok (.ireturn, 1) := by decide +kernel
theorem dL_law_1128 : decode cL_law 1128 = .ok (.aload_n 1, 1) := by decide +kernel
theorem dL_law_1129 : decode cL_law 1129 = .ok (.invokevirtual 125, 3) := by decide +kernel
theorem dL_law_1132 : decode cL_law 1132 = .ok (.aload_n 2, 1) := by decide +kernel
theorem dL_law_1133 : decode cL_law 1133 = .ok (.invokevirtual 128, 3) := by decide +kernel
theorem dL_law_1136 : decode cL_law 1136 = .ok (.if_icmp .eq 713, 3) := by decide +kernel
theorem dL_law_1139 : decode cL_law 1139 = .ok (.iconst 0, 1) := by decide +kernel
theorem dL_law_1140 : decode cL_law 1140 = .ok (.ireturn, 1) := by decide +kernel
theorem dL_law_1141 : decode cL_law 1141 = .ok (.aload_n 1, 1) := by decide +kernel
theorem dL_law_1142 : decode cL_law 1142 = .ok (.aload_n 0, 1) := by decide +kernel
theorem dL_law_1143 : decode cL_law 1143 = .ok (.iload 4, 2) := by decide +kernel
theorem dL_law_1145 : decode cL_law 1145 = .ok (.iconst 1, 1) := by decide +kernel
theorem dL_law_1146 : decode cL_law 1146 = .ok (.iadd, 1) := by decide +kernel
theorem dL_law_1147 : decode cL_law 1147 = .ok (.iaload, 1) := by decide +kernel
theorem dL_law_1148 : decode cL_law 1148 = .ok (.aload_n 0, 1) := by decide +kernel
theorem dL_law_1149 : decode cL_law 1149 = .ok (.iload 4, 2) := by decide +kernel
theorem dL_law_1151 : decode cL_law 1151 = .ok (.iconst 2, 1) := by decide +kernel
theorem dL_law_1152 : decode cL_law 1152 = .ok (.iadd, 1) := by decide +kernel
theorem dL_law_1153 : decode cL_law 1153 = .ok (.iaload, 1) := by decide +kernel
theorem dL_law_1154 : decode cL_law 1154 = .ok (.aload_n 0, 1) := by decide +kernel
theorem dL_law_1155 : decode cL_law 1155 = .ok (.iload 4, 2) := by decide +kernel
theorem dL_law_1157 : decode cL_law 1157 = .ok (.iconst 3, 1) := by decide +kernel
theorem dL_law_1158 : decode cL_law 1158 = .ok (.iadd, 1) := by decide +kernel
theorem dL_law_1159 : decode cL_law 1159 = .ok (.iaload, 1) := by decide +kernel
theorem dL_law_1160 : decode cL_law 1160 = .ok (.aload_n 0, 1) := by decide +kernel
theorem dL_law_1161 : decode cL_law 1161 = .ok (.iload 4, 2) := by decide +kernel
theorem dL_law_1163 : decode cL_law 1163 = .ok (.iconst 4, 1) := by decide +kernel
theorem dL_law_1164 : decode cL_law 1164 = .ok (.iadd, 1) := by decide +kernel
theorem dL_law_1165 : decode cL_law 1165 = .ok (.iaload, 1) := by decide +kernel
theorem dL_law_1166 : decode cL_law 1166 = .ok (.ifCond .eq 7, 3) := by decide +kernel
theorem dL_law_1169 : decode cL_law 1169 = .ok (.iconst 1, 1) := by decide +kernel
theorem dL_law_1170 : decode cL_law 1170 = .ok (.goto 4, 3) := by decide +kernel
theorem dL_law_1173 : decode cL_law 1173 = .ok (.iconst 0, 1) := by decide +kernel
theorem dL_law_1174 : decode cL_law 1174 = .ok (.invokevirtual 129, 3) := by decide +kernel
theorem dL_law_1177 : decode cL_law 1177 = .ok (.aload_n 2, 1) := by decide +kernel
theorem dL_law_1178 : decode cL_law 1178 = .ok (.aload_n 0, 1) := by decide +kernel
theorem dL_law_1179 : decode cL_law 1179 = .ok (.iload 4, 2) := by decide +kernel
theorem dL_law_1181 : decode cL_law 1181 = .ok (.iconst 1, 1) := by decide +kernel
theorem dL_law_1182 : decode cL_law 1182 = .ok (.iadd, 1) := by decide +kernel
theorem dL_law_1183 : decode cL_law 1183 = .ok (.iaload, 1) := by decide +kernel
theorem dL_law_1184 : decode cL_law 1184 = .ok (.aload_n 0, 1) := by decide +kernel
theorem dL_law_1185 : decode cL_law 1185 = .ok (.iload 4, 2) := by decide +kernel
theorem dL_law_1187 : decode cL_law 1187 = .ok (.iconst 2, 1) := by decide +kernel
theorem dL_law_1188 : decode cL_law 1188 = .ok (.iadd, 1) := by decide +kernel
theorem dL_law_1189 : decode cL_law 1189 = .ok (.iaload, 1) := by decide +kernel
theorem dL_law_1190 : decode cL_law 1190 = .ok (.aload_n 0, 1) := by decide +kernel
theorem dL_law_1191 : decode cL_law 1191 = .ok (.iload 4, 2) := by decide +kernel
theorem dL_law_1193 : decode cL_law 1193 = .ok (.iconst 3, 1) := by decide +kernel
theorem dL_law_1194 : decode cL_law 1194 = .ok (.iadd, 1) := by decide +kernel
theorem dL_law_1195 : decode cL_law 1195 = .ok (.iaload, 1) := by decide +kernel
theorem dL_law_1196 : decode cL_law 1196 = .ok (.aload_n 0, 1) := by decide +kernel
theorem dL_law_1197 : decode cL_law 1197 = .ok (.iload 4, 2) := by decide +kernel
theorem dL_law_1199 : decode cL_law 1199 = .ok (.iconst 4, 1) := by decide +kernel
theorem dL_law_1200 : decode cL_law 1200 = .ok (.iadd, 1) := by decide +kernel
theorem dL_law_1201 : decode cL_law 1201 = .ok (.iaload, 1) := by decide +kernel
theorem dL_law_1202 : decode cL_law 1202 = .ok (.ifCond .eq 7, 3) := by decide +kernel
theorem dL_law_1205 : decode cL_law 1205 = .ok (.iconst 1, 1) := by decide +kernel
theorem dL_law_1206 : decode cL_law 1206 = .ok (.goto 4, 3) := by decide +kernel
theorem dL_law_1209 : decode cL_law 1209 = .ok (.iconst 0, 1) := by decide +kernel
theorem dL_law_1210 : decode cL_law 1210 = .ok (.invokevirtual 133, 3) := by decide +kernel
theorem dL_law_1213 : decode cL_law 1213 = .ok (.if_icmp .eq 636, 3) := by decide +kernel
theorem dL_law_1216 : decode cL_law 1216 = .ok (.iconst 0, 1) := by decide +kernel
theorem dL_law_1217 : decode cL_law 1217 = .ok (.ireturn, 1) := by decide +kernel
theorem dL_law_1218 : decode cL_law 1218 = .ok (.aload_n 1, 1) := by decide +kernel
theorem dL_law_1219 : decode cL_law 1219 = .ok (.aload_n 0, 1) := by decide +kernel
theorem dL_law_1220 : decode cL_law 1220 = .ok (.iload 4, 2) := by decide +kernel
theorem dL_law_1222 : decode cL_law 1222 = .ok (.iconst 1, 1) := by decide +kernel
theorem dL_law_1223 : decode cL_law 1223 = .ok (.iadd, 1) := by decide +kernel
theorem dL_law_1224 : decode cL_law 1224 = .ok (.iaload, 1) := by decide +kernel
theorem dL_law_1225 : decode cL_law 1225 = .ok (.invokevirtual 134, 3) := by decide +kernel
theorem dL_law_1228 : decode cL_law 1228 = .ok (.aload_n 2, 1) := by decide +kernel
theorem dL_law_1229 : decode cL_law 1229 = .ok (.aload_n 0, 1) := by decide +kernel
theorem dL_law_1230 : decode cL_law 1230 = .ok (.iload 4, 2) := by decide +kernel
theorem dL_law_1232 : decode cL_law 1232 = .ok (.iconst 1, 1) := by decide +kernel
theorem dL_law_1233 : decode cL_law 1233 = .ok (.iadd, 1) := by decide +kernel
theorem dL_law_1234 : decode cL_law 1234 = .ok (.iaload, 1) := by decide +kernel
theorem dL_law_1235 : decode cL_law 1235 = .ok (.invokevirtual 137, 3) := by decide +kernel
theorem dL_law_1238 : decode cL_law 1238 = .ok (.if_icmp .eq 611, 3) := by decide +kernel
theorem dL_law_1241 : decode cL_law 1241 = .ok (.iconst 0, 1) := by decide +kernel
theorem dL_law_1242 : decode cL_law 1242 = .ok (.ireturn, 1) := by decide +kernel
theorem dL_law_1243 : decode cL_law 1243 = .ok (.aload_n 1, 1) := by decide +kernel
theorem dL_law_1244 : decode cL_law 1244 = .ok (.aload_n 0, 1) := by decide +kernel
theorem dL_law_1245 : decode cL_law 1245 = .ok (.iload 4, 2) := by decide +kernel
theorem dL_law_1247 : decode cL_law 1247 = .ok (.iconst 1, 1) := by decide +kernel
theorem dL_law_1248 : decode cL_law 1248 = .ok (.iadd, 1) := by decide +kernel
theorem dL_law_1249 : decode cL_law 1249 = .ok (.iaload, 1) := by decide +kernel
theorem dL_law_1250 : decode cL_law 1250 = .ok (.invokevirtual 138, 3) := by decide +kernel
theorem dL_law_1253 : decode cL_law 1253 = .ok (.aload_n 2, 1) := by decide +kernel
theorem dL_law_1254 : decode cL_law 1254 = .ok (.aload_n 0, 1) := by decide +kernel
theorem dL_law_1255 : decode cL_law 1255 = .ok (.iload 4, 2) := by decide +kernel
theorem dL_law_1257 : decode cL_law 1257 = .ok (.iconst 1, 1) := by decide +kernel
theorem dL_law_1258 : decode cL_law 1258 = .ok (.iadd, 1) := by decide +kernel
theorem dL_law_1259 : decode cL_law 1259 = .ok (.iaload, 1) := by decide +kernel
theorem dL_law_1260 : decode cL_law 1260 = .ok (.invokevirtual 141, 3) := by decide +kernel
theorem dL_law_1263 : decode cL_law 1263 = .ok (.if_icmp .eq 586, 3) := by decide +kernel
theorem dL_law_1266 : decode cL_law 1266 = .ok (.iconst 0, 1) := by decide +kernel
theorem dL_law_1267 : decode cL_law 1267 = .ok (.ireturn, 1) := by decide +kernel
theorem dL_law_1268 : decode cL_law 1268 = .ok (.aload_n 1, 1) := by decide +kernel
theorem dL_law_1269 : decode cL_law 1269 = .ok (.aload_n 0, 1) := by decide +kernel
theorem dL_law_1270 : decode cL_law 1270 = .ok (.iload 4, 2) := by decide +kernel
theorem dL_law_1272 : decode cL_law 1272 = .ok (.iconst 1, 1) := by decide +kernel
theorem dL_law_1273 : decode cL_law 1273 = .ok (.iadd, 1) := by decide +kernel
theorem dL_law_1274 : decode cL_law 1274 = .ok (.iaload, 1) := by decide +kernel
theorem dL_law_1275 : decode cL_law 1275 = .ok (.aload_n 0, 1) := by decide +kernel
theorem dL_law_1276 : decode cL_law 1276 = .ok (.iload 4, 2) := by decide +kernel
theorem dL_law_1278 : decode cL_law 1278 = .ok (.iconst 2, 1) := by decide +kernel
theorem dL_law_1279 : decode cL_law 1279 = .ok (.iadd, 1) := by decide +kernel
theorem dL_law_1280 : decode cL_law 1280 = .ok (.iaload, 1) := by decide +kernel
theorem dL_law_1281 : decode cL_law 1281 = .ok (.aload_n 0, 1) := by decide +kernel
theorem dL_law_1282 : decode cL_law 1282 = .ok (.iload 4, 2) := by decide +kernel
theorem dL_law_1284 : decode cL_law 1284 = .ok (.iconst 3, 1) := by decide +kernel
theorem dL_law_1285 : decode cL_law 1285 = .ok (.iadd, 1) := by decide +kernel
theorem dL_law_1286 : decode cL_law 1286 = .ok (.iaload, 1) := by decide +kernel
theorem dL_law_1287 : decode cL_law 1287 = .ok (.invokevirtual 142, 3) := by decide +kernel
theorem dL_law_1290 : decode cL_law 1290 = .ok (.aload_n 2, 1) := by decide +kernel
theorem dL_law_1291 : decode cL_law 1291 = .ok (.aload_n 0, 1) := by decide +kernel
theorem dL_law_1292 : decode cL_law 1292 = .ok (.iload 4, 2) := by decide +kernel
theorem dL_law_1294 : decode cL_law 1294 = .ok (.iconst 1, 1) := by decide +kernel
theorem dL_law_1295 : decode cL_law 1295 = .ok (.iadd, 1) := by decide +kernel
theorem dL_law_1296 : decode cL_law 1296 = .ok (.iaload, 1) := by decide +kernel
theorem dL_law_1297 : decode cL_law 1297 = .ok (.aload_n 0, 1) := by decide +kernel
theorem dL_law_1298 : decode cL_law 1298 = .ok (.iload 4, 2) := by decide +kernel
theorem dL_law_1300 : decode cL_law 1300 = .ok (.iconst 2, 1) := by decide +kernel
theorem dL_law_1301 : decode cL_law 1301 = .ok (.iadd, 1) := by decide +kernel
theorem dL_law_1302 : decode cL_law 1302 = .ok (.iaload, 1) := by decide +kernel
theorem dL_law_1303 : decode cL_law 1303 = .ok (.aload_n 0, 1) := by decide +kernel
theorem dL_law_1304 : decode cL_law 1304 = .ok (.iload 4, 2) := by decide +kernel
theorem dL_law_1306 : decode cL_law 1306 = .ok (.iconst 3, 1) := by decide +kernel
theorem dL_law_1307 : decode cL_law 1307 = .ok (.iadd, 1) := by decide +kernel
theorem dL_law_1308 : decode cL_law 1308 = .ok (.iaload, 1) := by decide +kernel
theorem dL_law_1309 : decode cL_law 1309 = .ok (.invokevirtual 145, 3) := by decide +kernel
theorem dL_law_1312 : decode cL_law 1312 = .ok (.if_icmp .eq 537, 3) := by decide +kernel
theorem dL_law_1315 : decode cL_law 1315 = .ok (.iconst 0, 1) := by decide +kernel
theorem dL_law_1316 : decode cL_law 1316 = .ok (.ireturn, 1) := by decide +kernel
theorem dL_law_1317 : decode cL_law 1317 = .ok (.aload_n 1, 1) := by decide +kernel
theorem dL_law_1318 : decode cL_law 1318 = .ok (.aload_n 0, 1) := by decide +kernel
theorem dL_law_1319 : decode cL_law 1319 = .ok (.iload 4, 2) := by decide +kernel
theorem dL_law_1321 : decode cL_law 1321 = .ok (.iconst 1, 1) := by decide +kernel
theorem dL_law_1322 : decode cL_law 1322 = .ok (.iadd, 1) := by decide +kernel
theorem dL_law_1323 : decode cL_law 1323 = .ok (.iaload, 1) := by decide +kernel
theorem dL_law_1324 : decode cL_law 1324 = .ok (.aload_n 0, 1) := by decide +kernel
theorem dL_law_1325 : decode cL_law 1325 = .ok (.iload 4, 2) := by decide +kernel
theorem dL_law_1327 : decode cL_law 1327 = .ok (.iconst 2, 1) := by decide +kernel
theorem dL_law_1328 : decode cL_law 1328 = .ok (.iadd, 1) := by decide +kernel
theorem dL_law_1329 : decode cL_law 1329 = .ok (.iaload, 1) := by decide +kernel
theorem dL_law_1330 : decode cL_law 1330 = .ok (.invokevirtual 146, 3) := by decide +kernel
theorem dL_law_1333 : decode cL_law 1333 = .ok (.aload_n 2, 1) := by decide +kernel
theorem dL_law_1334 : decode cL_law 1334 = .ok (.aload_n 0, 1) := by decide +kernel
theorem dL_law_1335 : decode cL_law 1335 = .ok (.iload 4, 2) := by decide +kernel
theorem dL_law_1337 : decode cL_law 1337 = .ok (.iconst 1, 1) := by decide +kernel
theorem dL_law_1338 : decode cL_law 1338 = .ok (.iadd, 1) := by decide +kernel
theorem dL_law_1339 : decode cL_law 1339 = .ok (.iaload, 1) := by decide +kernel
theorem dL_law_1340 : decode cL_law 1340 = .ok (.aload_n 0, 1) := by decide +kernel
theorem dL_law_1341 : decode cL_law 1341 = .ok (.iload 4, 2) := by decide +kernel
theorem dL_law_1343 : decode cL_law 1343 = .ok (.iconst 2, 1) := by decide +kernel
theorem dL_law_1344 : decode cL_law 1344 = .ok (.iadd, 1) := by decide +kernel
theorem dL_law_1345 : decode cL_law 1345 = .ok (.iaload, 1) := by decide +kernel
theorem dL_law_1346 : decode cL_law 1346 = .ok (.invokevirtual 149, 3) := by decide +kernel
theorem dL_law_1349 : decode cL_law 1349 = .ok (.if_icmp .eq 500, 3) := by decide +kernel
theorem dL_law_1352 : decode cL_law 1352 = .ok (.iconst 0, 1) := by decide +kernel
theorem dL_law_1353 : decode cL_law 1353 = .ok (.ireturn, 1) := by decide +kernel
theorem dL_law_1354 : decode cL_law 1354 = .ok (.aload_n 1, 1) := by decide +kernel
theorem dL_law_1355 : decode cL_law 1355 = .ok (.aload_n 0, 1) := by decide +kernel
theorem dL_law_1356 : decode cL_law 1356 = .ok (.iload 4, 2) := by decide +kernel
theorem dL_law_1358 : decode cL_law 1358 = .ok (.iconst 1, 1) := by decide +kernel
theorem dL_law_1359 : decode cL_law 1359 = .ok (.iadd, 1) := by decide +kernel
theorem dL_law_1360 : decode cL_law 1360 = .ok (.iaload, 1) := by decide +kernel
theorem dL_law_1361 : decode cL_law 1361 = .ok (.aload_n 0, 1) := by decide +kernel
theorem dL_law_1362 : decode cL_law 1362 = .ok (.iload 4, 2) := by decide +kernel
theorem dL_law_1364 : decode cL_law 1364 = .ok (.iconst 2, 1) := by decide +kernel
theorem dL_law_1365 : decode cL_law 1365 = .ok (.iadd, 1) := by decide +kernel
theorem dL_law_1366 : decode cL_law 1366 = .ok (.iaload, 1) := by decide +kernel
theorem dL_law_1367 : decode cL_law 1367 = .ok (.invokevirtual 150, 3) := by decide +kernel
theorem dL_law_1370 : decode cL_law 1370 = .ok (.aload_n 2, 1) := by decide +kernel
theorem dL_law_1371 : decode cL_law 1371 = .ok (.aload_n 0, 1) := by decide +kernel
theorem dL_law_1372 : decode cL_law 1372 = .ok (.iload 4, 2) := by decide +kernel
theorem dL_law_1374 : decode cL_law 1374 = .ok (.iconst 1, 1) := by decide +kernel
theorem dL_law_1375 : decode cL_law 1375 = .ok (.iadd, 1) := by decide +kernel
theorem dL_law_1376 : decode cL_law 1376 = .ok (.iaload, 1) := by decide +kernel
theorem dL_law_1377 : decode cL_law 1377 = .ok (.aload_n 0, 1) := by decide +kernel
theorem dL_law_1378 : decode cL_law 1378 = .ok (.iload 4, 2) := by decide +kernel
theorem dL_law_1380 : decode cL_law 1380 = .ok (.iconst 2, 1) := by decide +kernel
theorem dL_law_1381 : decode cL_law 1381 = .ok (.iadd, 1) := by decide +kernel
theorem dL_law_1382 : decode cL_law 1382 = .ok (.iaload, 1) := by decide +kernel
theorem dL_law_1383 : decode cL_law 1383 = .ok (.invokevirtual 153, 3) := by decide +kernel
theorem dL_law_1386 : decode cL_law 1386 = .ok (.if_icmp .eq 463, 3) := by decide +kernel
theorem dL_law_1389 : decode cL_law 1389 = .ok (.iconst 0, 1) := by decide +kernel
theorem dL_law_1390 : decode cL_law 1390 = .ok (.ireturn, 1) := by decide +kernel
theorem dL_law_1391 : decode cL_law 1391 = .ok (.aload_n 1, 1) := by decide +kernel
theorem dL_law_1392 : decode cL_law 1392 = .ok (.invokevirtual 154, 3) := by decide +kernel
theorem dL_law_1395 : decode cL_law 1395 = .ok (.aload_n 2, 1) := by decide +kernel
theorem dL_law_1396 : decode cL_law 1396 = .ok (.invokevirtual 157, 3) := by decide +kernel
theorem dL_law_1399 : decode cL_law 1399 = .ok (.if_icmp .eq 450, 3) := by decide +kernel
theorem dL_law_1402 : decode cL_law 1402 = .ok (.iconst 0, 1) := by decide +kernel
theorem dL_law_1403 : decode cL_law 1403 = .ok (.ireturn, 1) := by decide +kernel
theorem dL_law_1404 : decode cL_law 1404 = .ok (.aload_n 1, 1) := by decide +kernel
theorem dL_law_1405 : decode cL_law 1405 = .ok (.aload_n 0, 1) := by decide +kernel
theorem dL_law_1406 : decode cL_law 1406 = .ok (.iload 4, 2) := by decide +kernel
theorem dL_law_1408 : decode cL_law 1408 = .ok (.iconst 1, 1) := by decide +kernel
theorem dL_law_1409 : decode cL_law 1409 = .ok (.iadd, 1) := by decide +kernel
theorem dL_law_1410 : decode cL_law 1410 = .ok (.iaload, 1) := by decide +kernel
theorem dL_law_1411 : decode cL_law 1411 = .ok (.invokevirtual 158, 3) := by decide +kernel
theorem dL_law_1414 : decode cL_law 1414 = .ok (.aload_n 2, 1) := by decide +kernel
theorem dL_law_1415 : decode cL_law 1415 = .ok (.aload_n 0, 1) := by decide +kernel
theorem dL_law_1416 : decode cL_law 1416 = .ok (.iload 4, 2) := by decide +kernel
theorem dL_law_1418 : decode cL_law 1418 = .ok (.iconst 1, 1) := by decide +kernel
theorem dL_law_1419 : decode cL_law 1419 = .ok (.iadd, 1) := by decide +kernel
theorem dL_law_1420 : decode cL_law 1420 = .ok (.iaload, 1) := by decide +kernel
theorem dL_law_1421 : decode cL_law 1421 = .ok (.invokevirtual 161, 3) := by decide +kernel
theorem dL_law_1424 : decode cL_law 1424 = .ok (.if_icmp .eq 425, 3) := by decide +kernel
theorem dL_law_1427 : decode cL_law 1427 = .ok (.iconst 0, 1) := by decide +kernel
theorem dL_law_1428 : decode cL_law 1428 = .ok (.ireturn, 1) := by decide +kernel
theorem dL_law_1429 : decode cL_law 1429 = .ok (.aload_n 1, 1) := by decide +kernel
theorem dL_law_1430 : decode cL_law 1430 = .ok (.aload_n 0, 1) := by decide +kernel
theorem dL_law_1431 : decode cL_law 1431 = .ok (.iload 4, 2) := by decide +kernel
theorem dL_law_1433 : decode cL_law 1433 = .ok (.iconst 1, 1) := by decide +kernel
theorem dL_law_1434 : decode cL_law 1434 = .ok (.iadd, 1) := by decide +kernel
theorem dL_law_1435 : decode cL_law 1435 = .ok (.iaload, 1) := by decide +kernel
theorem dL_law_1436 : decode cL_law 1436 = .ok (.invokevirtual 162, 3) := by decide +kernel
theorem dL_law_1439 : decode cL_law 1439 = .ok (.aload_n 2, 1) := by decide +kernel
theorem dL_law_1440 : decode cL_law 1440 = .ok (.aload_n 0, 1) := by decide +kernel
theorem dL_law_1441 : decode cL_law 1441 = .ok (.iload 4, 2) := by decide +kernel
theorem dL_law_1443 : decode cL_law 1443 = .ok (.iconst 1, 1) := by decide +kernel
theorem dL_law_1444 : decode cL_law 1444 = .ok (.iadd, 1) := by decide +kernel
theorem dL_law_1445 : decode cL_law 1445 = .ok (.iaload, 1) := by decide +kernel
theorem dL_law_1446 : decode cL_law 1446 = .ok (.invokevirtual 165, 3) := by decide +kernel
theorem dL_law_1449 : decode cL_law 1449 = .ok (.if_icmp .eq 400, 3) := by decide +kernel
theorem dL_law_1452 : decode cL_law 1452 = .ok (.iconst 0, 1) := by decide +kernel
theorem dL_law_1453 : decode cL_law 1453 = .ok (.ireturn, 1) := by decide +kernel
theorem dL_law_1454 : decode cL_law 1454 = .ok (.aload_n 1, 1) := by decide +kernel
theorem dL_law_1455 : decode cL_law 1455 = .ok (.aload_n 0, 1) := by decide +kernel
theorem dL_law_1456 : decode cL_law 1456 = .ok (.iload 4, 2) := by decide +kernel
theorem dL_law_1458 : decode cL_law 1458 = .ok (.iconst 1, 1) := by decide +kernel
theorem dL_law_1459 : decode cL_law 1459 = .ok (.iadd, 1) := by decide +kernel
theorem dL_law_1460 : decode cL_law 1460 = .ok (.iaload, 1) := by decide +kernel
theorem dL_law_1461 : decode cL_law 1461 = .ok (.invokevirtual 166, 3) := by decide +kernel
theorem dL_law_1464 : decode cL_law 1464 = .ok (.aload_n 2, 1) := by decide +kernel
theorem dL_law_1465 : decode cL_law 1465 = .ok (.aload_n 0, 1) := by decide +kernel
theorem dL_law_1466 : decode cL_law 1466 = .ok (.iload 4, 2) := by decide +kernel
theorem dL_law_1468 : decode cL_law 1468 = .ok (.iconst 1, 1) := by decide +kernel
theorem dL_law_1469 : decode cL_law 1469 = .ok (.iadd, 1) := by decide +kernel
theorem dL_law_1470 : decode cL_law 1470 = .ok (.iaload, 1) := by decide +kernel
theorem dL_law_1471 : decode cL_law 1471 = .ok (.invokevirtual 169, 3) := by decide +kernel
theorem dL_law_1474 : decode cL_law 1474 = .ok (.if_icmp .eq 375, 3) := by decide +kernel
theorem dL_law_1477 : decode cL_law 1477 = .ok (.iconst 0, 1) := by decide +kernel
theorem dL_law_1478 : decode cL_law 1478 = .ok (.ireturn, 1) := by decide +kernel
theorem dL_law_1479 : decode cL_law 1479 = .ok (.aload_n 1, 1) := by decide +kernel
theorem dL_law_1480 : decode cL_law 1480 = .ok (.invokevirtual 170, 3) := by decide +kernel
theorem dL_law_1483 : decode cL_law 1483 = .ok (.aload_n 2, 1) := by decide +kernel
theorem dL_law_1484 : decode cL_law 1484 = .ok (.invokevirtual 173, 3) := by decide +kernel
theorem dL_law_1487 : decode cL_law 1487 = .ok (.if_icmp .eq 362, 3) := by decide +kernel
theorem dL_law_1490 : decode cL_law 1490 = .ok (.iconst 0, 1) := by decide +kernel
theorem dL_law_1491 : decode cL_law 1491 = .ok (.ireturn, 1) := by decide +kernel
theorem dL_law_1492 : decode cL_law 1492 = .ok (.aload_n 1, 1) := by decide +kernel
theorem dL_law_1493 : decode cL_law 1493 = .ok (.invokevirtual 174, 3) := by decide +kernel
theorem dL_law_1496 : decode cL_law 1496 = .ok (.aload_n 2, 1) := by decide +kernel
theorem dL_law_1497 : decode cL_law 1497 = .ok (.invokevirtual 177, 3) := by decide +kernel
theorem dL_law_1500 : decode cL_law 1500 = .ok (.if_icmp .eq 349, 3) := by decide +kernel
theorem dL_law_1503 : decode cL_law 1503 = .ok (.iconst 0, 1) := by decide +kernel
theorem dL_law_1504 : decode cL_law 1504 = .ok (.ireturn, 1) := by decide +kernel
theorem dL_law_1505 : decode cL_law 1505 = .ok (.aload_n 1, 1) := by decide +kernel
theorem dL_law_1506 : decode cL_law 1506 = .ok (.invokevirtual 178, 3) := by decide +kernel
theorem dL_law_1509 : decode cL_law 1509 = .ok (.aload_n 2, 1) := by decide +kernel
theorem dL_law_1510 : decode cL_law 1510 = .ok (.invokevirtual 181, 3) := by decide +kernel
theorem dL_law_1513 : decode cL_law 1513 = .ok (.if_icmp .eq 336, 3) := by decide +kernel
theorem dL_law_1516 : decode cL_law 1516 = .ok (.iconst 0, 1) := by decide +kernel
theorem dL_law_1517 : decode cL_law 1517 = .ok (.ireturn, 1) := by decide +kernel
theorem dL_law_1518 : decode cL_law 1518 = .ok (.aload_n 1, 1) := by decide +kernel
theorem dL_law_1519 : decode cL_law 1519 = .ok (.aload_n 0, 1) := by decide +kernel
theorem dL_law_1520 : decode cL_law 1520 = .ok (.iload 4, 2) := by decide +kernel
theorem dL_law_1522 : decode cL_law 1522 = .ok (.iconst 1, 1) := by decide +kernel
theorem dL_law_1523 : decode cL_law 1523 = .ok (.iadd, 1) := by decide +kernel
theorem dL_law_1524 : decode cL_law 1524 = .ok (.iaload, 1) := by decide +kernel
theorem dL_law_1525 : decode cL_law 1525 = .ok (.aload_n 0, 1) := by decide +kernel
theorem dL_law_1526 : decode cL_law 1526 = .ok (.iload 4, 2) := by decide +kernel
theorem dL_law_1528 : decode cL_law 1528 = .ok (.iconst 2, 1) := by decide +kernel
theorem dL_law_1529 : decode cL_law 1529 = .ok (.iadd, 1) := by decide +kernel
theorem dL_law_1530 : decode cL_law 1530 = .ok (.iaload, 1) := by decide +kernel
theorem dL_law_1531 : decode cL_law 1531 = .ok (.invokevirtual 182, 3) := by decide +kernel
theorem dL_law_1534 : decode cL_law 1534 = .ok (.aload_n 2, 1) := by decide +kernel
theorem dL_law_1535 : decode cL_law 1535 = .ok (.aload_n 0, 1) := by decide +kernel
theorem dL_law_1536 : decode cL_law 1536 = .ok (.iload 4, 2) := by decide +kernel
theorem dL_law_1538 : decode cL_law 1538 = .ok (.iconst 1, 1) := by decide +kernel
theorem dL_law_1539 : decode cL_law 1539 = .ok (.iadd, 1) := by decide +kernel
theorem dL_law_1540 : decode cL_law 1540 = .ok (.iaload, 1) := by decide +kernel
theorem dL_law_1541 : decode cL_law 1541 = .ok (.aload_n 0, 1) := by decide +kernel
theorem dL_law_1542 : decode cL_law 1542 = .ok (.iload 4, 2) := by decide +kernel
theorem dL_law_1544 : decode cL_law 1544 = .ok (.iconst 2, 1) := by decide +kernel
theorem dL_law_1545 : decode cL_law 1545 = .ok (.iadd, 1) := by decide +kernel
theorem dL_law_1546 : decode cL_law 1546 = .ok (.iaload, 1) := by decide +kernel
theorem dL_law_1547 : decode cL_law 1547 = .ok (.invokevirtual 185, 3) := by decide +kernel
theorem dL_law_1550 : decode cL_law 1550 = .ok (.if_icmp .eq 299, 3) := by decide +kernel
theorem dL_law_1553 : decode cL_law 1553 = .ok (.iconst 0, 1) := by decide +kernel
theorem dL_law_1554 : decode cL_law 1554 = .ok (.ireturn, 1) := by decide +kernel
theorem dL_law_1555 : decode cL_law 1555 = .ok (.aload_n 1, 1) := by decide +kernel
theorem dL_law_1556 : decode cL_law 1556 = .ok (.aload_n 0, 1) := by decide +kernel
theorem dL_law_1557 : decode cL_law 1557 = .ok (.iload 4, 2) := by decide +kernel
theorem dL_law_1559 : decode cL_law 1559 = .ok (.iconst 1, 1) := by decide +kernel
theorem dL_law_1560 : decode cL_law 1560 = .ok (.iadd, 1) := by decide +kernel
theorem dL_law_1561 : decode cL_law 1561 = .ok (.iaload, 1) := by decide +kernel
theorem dL_law_1562 : decode cL_law 1562 = .ok (.aload_n 0, 1) := by decide +kernel
theorem dL_law_1563 : decode cL_law 1563 = .ok (.iload 4, 2) := by decide +kernel
theorem dL_law_1565 : decode cL_law 1565 = .ok (.iconst 2, 1) := by decide +kernel
theorem dL_law_1566 : decode cL_law 1566 = .ok (.iadd, 1) := by decide +kernel
theorem dL_law_1567 : decode cL_law 1567 = .ok (.iaload, 1) := by decide +kernel
theorem dL_law_1568 : decode cL_law 1568 = .ok (.invokevirtual 186, 3) := by decide +kernel
theorem dL_law_1571 : decode cL_law 1571 = .ok (.aload_n 2, 1) := by decide +kernel
theorem dL_law_1572 : decode cL_law 1572 = .ok (.aload_n 0, 1) := by decide +kernel
theorem dL_law_1573 : decode cL_law 1573 = .ok (.iload 4, 2) := by decide +kernel
theorem dL_law_1575 : decode cL_law 1575 = .ok (.iconst 1, 1) := by decide +kernel
theorem dL_law_1576 : decode cL_law 1576 = .ok (.iadd, 1) := by decide +kernel
theorem dL_law_1577 : decode cL_law 1577 = .ok (.iaload, 1) := by decide +kernel
theorem dL_law_1578 : decode cL_law 1578 = .ok (.aload_n 0, 1) := by decide +kernel
theorem dL_law_1579 : decode cL_law 1579 = .ok (.iload 4, 2) := by decide +kernel
theorem dL_law_1581 : decode cL_law 1581 = .ok (.iconst 2, 1) := by decide +kernel
theorem dL_law_1582 : decode cL_law 1582 = .ok (.iadd, 1) := by decide +kernel
theorem dL_law_1583 : decode cL_law 1583 = .ok (.iaload, 1) := by decide +kernel
theorem dL_law_1584 : decode cL_law 1584 = .ok (.invokevirtual 189, 3) := by decide +kernel
theorem dL_law_1587 : decode cL_law 1587 = .ok (.if_icmp .eq 262, 3) := by decide +kernel
theorem dL_law_1590 : decode cL_law 1590 = .ok (.iconst 0, 1) := by decide +kernel
theorem dL_law_1591 : decode cL_law 1591 = .ok (.ireturn, 1) := by decide +kernel
theorem dL_law_1592 : decode cL_law 1592 = .ok (.aload_n 1, 1) := by decide +kernel
theorem dL_law_1593 : decode cL_law 1593 = .ok (.aload_n 0, 1) := by decide +kernel
theorem dL_law_1594 : decode cL_law 1594 = .ok (.iload 4, 2) := by decide +kernel
theorem dL_law_1596 : decode cL_law 1596 = .ok (.iconst 1, 1) := by decide +kernel
theorem dL_law_1597 : decode cL_law 1597 = .ok (.iadd, 1) := by decide +kernel
theorem dL_law_1598 : decode cL_law 1598 = .ok (.iaload, 1) := by decide +kernel
theorem dL_law_1599 : decode cL_law 1599 = .ok (.aload_n 0, 1) := by decide +kernel
theorem dL_law_1600 : decode cL_law 1600 = .ok (.iload 4, 2) := by decide +kernel
theorem dL_law_1602 : decode cL_law 1602 = .ok (.iconst 2, 1) := by decide +kernel
theorem dL_law_1603 : decode cL_law 1603 = .ok (.iadd, 1) := by decide +kernel
theorem dL_law_1604 : decode cL_law 1604 = .ok (.iaload, 1) := by decide +kernel
theorem dL_law_1605 : decode cL_law 1605 = .ok (.invokevirtual 190, 3) := by decide +kernel
theorem dL_law_1608 : decode cL_law 1608 = .ok (.aload_n 2, 1) := by decide +kernel
theorem dL_law_1609 : decode cL_law 1609 = .ok (.aload_n 0, 1) := by decide +kernel
theorem dL_law_1610 : decode cL_law 1610 = .ok (.iload 4, 2) := by decide +kernel
theorem dL_law_1612 : decode cL_law 1612 = .ok (.iconst 1, 1) := by decide +kernel
theorem dL_law_1613 : decode cL_law 1613 = .ok (.iadd, 1) := by decide +kernel
theorem dL_law_1614 : decode cL_law 1614 = .ok (.iaload, 1) := by decide +kernel
theorem dL_law_1615 : decode cL_law 1615 = .ok (.aload_n 0, 1) := by decide +kernel
theorem dL_law_1616 : decode cL_law 1616 = .ok (.iload 4, 2) := by decide +kernel
theorem dL_law_1618 : decode cL_law 1618 = .ok (.iconst 2, 1) := by decide +kernel
theorem dL_law_1619 : decode cL_law 1619 = .ok (.iadd, 1) := by decide +kernel
theorem dL_law_1620 : decode cL_law 1620 = .ok (.iaload, 1) := by decide +kernel
theorem dL_law_1621 : decode cL_law 1621 = .ok (.invokevirtual 193, 3) := by decide +kernel
theorem dL_law_1624 : decode cL_law 1624 = .ok (.if_icmp .eq 225, 3) := by decide +kernel
theorem dL_law_1627 : decode cL_law 1627 = .ok (.iconst 0, 1) := by decide +kernel
theorem dL_law_1628 : decode cL_law 1628 = .ok (.ireturn, 1) := by decide +kernel
theorem dL_law_1629 : decode cL_law 1629 = .ok (.aload_n 1, 1) := by decide +kernel
theorem dL_law_1630 : decode cL_law 1630 = .ok (.aload_n 0, 1) := by decide +kernel
theorem dL_law_1631 : decode cL_law 1631 = .ok (.iload 4, 2) := by decide +kernel
theorem dL_law_1633 : decode cL_law 1633 = .ok (.iconst 1, 1) := by decide +kernel
theorem dL_law_1634 : decode cL_law 1634 = .ok (.iadd, 1) := by decide +kernel
theorem dL_law_1635 : decode cL_law 1635 = .ok (.iaload, 1) := by decide +kernel
theorem dL_law_1636 : decode cL_law 1636 = .ok (.invokevirtual 194, 3) := by decide +kernel
theorem dL_law_1639 : decode cL_law 1639 = .ok (.aload_n 2, 1) := by decide +kernel
theorem dL_law_1640 : decode cL_law 1640 = .ok (.aload_n 0, 1) := by decide +kernel
theorem dL_law_1641 : decode cL_law 1641 = .ok (.iload 4, 2) := by decide +kernel
theorem dL_law_1643 : decode cL_law 1643 = .ok (.iconst 1, 1) := by decide +kernel
theorem dL_law_1644 : decode cL_law 1644 = .ok (.iadd, 1) := by decide +kernel
theorem dL_law_1645 : decode cL_law 1645 = .ok (.iaload, 1) := by decide +kernel
theorem dL_law_1646 : decode cL_law 1646 = .ok (.invokevirtual 197, 3) := by decide +kernel
theorem dL_law_1649 : decode cL_law 1649 = .ok (.if_icmp .eq 200, 3) := by decide +kernel
theorem dL_law_1652 : decode cL_law 1652 = .ok (.iconst 0, 1) := by decide +kernel
theorem dL_law_1653 : decode cL_law 1653 = .ok (.ireturn, 1) := by decide +kernel
theorem dL_law_1654 : decode cL_law 1654 = .ok (.aload_n 1, 1) := by decide +kernel
theorem dL_law_1655 : decode cL_law 1655 = .ok (.aload_n 0, 1) := by decide +kernel
theorem dL_law_1656 : decode cL_law 1656 = .ok (.iload 4, 2) := by decide +kernel
theorem dL_law_1658 : decode cL_law 1658 = .ok (.iconst 1, 1) := by decide +kernel
theorem dL_law_1659 : decode cL_law 1659 = .ok (.iadd, 1) := by decide +kernel
theorem dL_law_1660 : decode cL_law 1660 = .ok (.iaload, 1) := by decide +kernel
theorem dL_law_1661 : decode cL_law 1661 = .ok (.invokevirtual 198, 3) := by decide +kernel
theorem dL_law_1664 : decode cL_law 1664 = .ok (.aload_n 2, 1) := by decide +kernel
theorem dL_law_1665 : decode cL_law 1665 = .ok (.aload_n 0, 1) := by decide +kernel
theorem dL_law_1666 : decode cL_law 1666 = .ok (.iload 4, 2) := by decide +kernel
theorem dL_law_1668 : decode cL_law 1668 = .ok (.iconst 1, 1) := by decide +kernel
theorem dL_law_1669 : decode cL_law 1669 = .ok (.iadd, 1) := by decide +kernel
theorem dL_law_1670 : decode cL_law 1670 = .ok (.iaload, 1) := by decide +kernel
theorem dL_law_1671 : decode cL_law 1671 = .ok (.invokevirtual 201, 3) := by decide +kernel
theorem dL_law_1674 : decode cL_law 1674 = .ok (.if_icmp .eq 175, 3) := by decide +kernel
theorem dL_law_1677 : decode cL_law 1677 = .ok (.iconst 0, 1) := by decide +kernel
theorem dL_law_1678 : decode cL_law 1678 = .ok (.ireturn, 1) := by decide +kernel
theorem dL_law_1679 : decode cL_law 1679 = .ok (.aload_n 1, 1) := by decide +kernel
theorem dL_law_1680 : decode cL_law 1680 = .ok (.aload_n 0, 1) := by decide +kernel
theorem dL_law_1681 : decode cL_law 1681 = .ok (.iload 4, 2) := by decide +kernel
theorem dL_law_1683 : decode cL_law 1683 = .ok (.iconst 1, 1) := by decide +kernel
theorem dL_law_1684 : decode cL_law 1684 = .ok (.iadd, 1) := by decide +kernel
theorem dL_law_1685 : decode cL_law 1685 = .ok (.iaload, 1) := by decide +kernel
theorem dL_law_1686 : decode cL_law 1686 = .ok (.invokevirtual 202, 3) := by decide +kernel
theorem dL_law_1689 : decode cL_law 1689 = .ok (.aload_n 2, 1) := by decide +kernel
theorem dL_law_1690 : decode cL_law 1690 = .ok (.aload_n 0, 1) := by decide +kernel
theorem dL_law_1691 : decode cL_law 1691 = .ok (.iload 4, 2) := by decide +kernel
theorem dL_law_1693 : decode cL_law 1693 = .ok (.iconst 1, 1) := by decide +kernel
theorem dL_law_1694 : decode cL_law 1694 = .ok (.iadd, 1) := by decide +kernel
theorem dL_law_1695 : decode cL_law 1695 = .ok (.iaload, 1) := by decide +kernel
theorem dL_law_1696 : decode cL_law 1696 = .ok (.invokevirtual 206, 3) := by decide +kernel
theorem dL_law_1699 : decode cL_law 1699 = .ok (.if_icmp .eq 150, 3) := by decide +kernel
theorem dL_law_1702 : decode cL_law 1702 = .ok (.iconst 0, 1) := by decide +kernel
theorem dL_law_1703 : decode cL_law 1703 = .ok (.ireturn, 1) := by decide +kernel
theorem dL_law_1704 : decode cL_law 1704 = .ok (.aload_n 1, 1) := by decide +kernel
theorem dL_law_1705 : decode cL_law 1705 = .ok (.invokevirtual 207, 3) := by decide +kernel
theorem dL_law_1708 : decode cL_law 1708 = .ok (.aload_n 2, 1) := by decide +kernel
theorem dL_law_1709 : decode cL_law 1709 = .ok (.invokevirtual 211, 3) := by decide +kernel
theorem dL_law_1712 : decode cL_law 1712 = .ok (.if_icmp .eq 137, 3) := by decide +kernel
theorem dL_law_1715 : decode cL_law 1715 = .ok (.iconst 0, 1) := by decide +kernel
theorem dL_law_1716 : decode cL_law 1716 = .ok (.ireturn, 1) := by decide +kernel
theorem dL_law_1717 : decode cL_law 1717 = .ok (.aload_n 1, 1) := by decide +kernel
theorem dL_law_1718 : decode cL_law 1718 = .ok (.invokevirtual 212, 3) := by decide +kernel
theorem dL_law_1721 : decode cL_law 1721 = .ok (.aload_n 2, 1) := by decide +kernel
theorem dL_law_1722 : decode cL_law 1722 = .ok (.invokevirtual 215, 3) := by decide +kernel
theorem dL_law_1725 : decode cL_law 1725 = .ok (.if_icmp .eq 124, 3) := by decide +kernel
theorem dL_law_1728 : decode cL_law 1728 = .ok (.iconst 0, 1) := by decide +kernel
theorem dL_law_1729 : decode cL_law 1729 = .ok (.ireturn, 1) := by decide +kernel
theorem dL_law_1730 : decode cL_law 1730 = .ok (.aload_n 1, 1) := by decide +kernel
theorem dL_law_1731 : decode cL_law 1731 = .ok (.aload_n 0, 1) := by decide +kernel
theorem dL_law_1732 : decode cL_law 1732 = .ok (.iload 4, 2) := by decide +kernel
theorem dL_law_1734 : decode cL_law 1734 = .ok (.iconst 1, 1) := by decide +kernel
theorem dL_law_1735 : decode cL_law 1735 = .ok (.iadd, 1) := by decide +kernel
theorem dL_law_1736 : decode cL_law 1736 = .ok (.iaload, 1) := by decide +kernel
theorem dL_law_1737 : decode cL_law 1737 = .ok (.invokevirtual 216, 3) := by decide +kernel
theorem dL_law_1740 : decode cL_law 1740 = .ok (.aload_n 2, 1) := by decide +kernel
theorem dL_law_1741 : decode cL_law 1741 = .ok (.aload_n 0, 1) := by decide +kernel
theorem dL_law_1742 : decode cL_law 1742 = .ok (.iload 4, 2) := by decide +kernel
theorem dL_law_1744 : decode cL_law 1744 = .ok (.iconst 1, 1) := by decide +kernel
theorem dL_law_1745 : decode cL_law 1745 = .ok (.iadd, 1) := by decide +kernel
theorem dL_law_1746 : decode cL_law 1746 = .ok (.iaload, 1) := by decide +kernel
theorem dL_law_1747 : decode cL_law 1747 = .ok (.invokevirtual 219, 3) := by decide +kernel
theorem dL_law_1750 : decode cL_law 1750 = .ok (.if_icmp .eq 99, 3) := by decide +kernel
theorem dL_law_1753 : decode cL_law 1753 = .ok (.iconst 0, 1) := by decide +kernel
theorem dL_law_1754 : decode cL_law 1754 = .ok (.ireturn, 1) := by decide +kernel
theorem dL_law_1755 : decode cL_law 1755 = .ok (.aload_n 1, 1) := by decide +kernel
theorem dL_law_1756 : decode cL_law 1756 = .ok (.aload_n 0, 1) := by decide +kernel
theorem dL_law_1757 : decode cL_law 1757 = .ok (.iload 4, 2) := by decide +kernel
theorem dL_law_1759 : decode cL_law 1759 = .ok (.iconst 1, 1) := by decide +kernel
theorem dL_law_1760 : decode cL_law 1760 = .ok (.iadd, 1) := by decide +kernel
theorem dL_law_1761 : decode cL_law 1761 = .ok (.iaload, 1) := by decide +kernel
theorem dL_law_1762 : decode cL_law 1762 = .ok (.aload_n 3, 1) := by decide +kernel
theorem dL_law_1763 : decode cL_law 1763 = .ok (.invokestatic 220, 3) := by decide +kernel
theorem dL_law_1766 : decode cL_law 1766 = .ok (.istore 5, 2) := by decide +kernel
theorem dL_law_1768 : decode cL_law 1768 = .ok (.aload_n 2, 1) := by decide +kernel
theorem dL_law_1769 : decode cL_law 1769 = .ok (.aload_n 0, 1) := by decide +kernel
theorem dL_law_1770 : decode cL_law 1770 = .ok (.iload 4, 2) := by decide +kernel
theorem dL_law_1772 : decode cL_law 1772 = .ok (.iconst 1, 1) := by decide +kernel
theorem dL_law_1773 : decode cL_law 1773 = .ok (.iadd, 1) := by decide +kernel
theorem dL_law_1774 : decode cL_law 1774 = .ok (.iaload, 1) := by decide +kernel
theorem dL_law_1775 : decode cL_law 1775 = .ok (.invokevirtual 225, 3) := by decide +kernel
theorem dL_law_1778 : decode cL_law 1778 = .ok (.istore 6, 2) := by decide +kernel
theorem dL_law_1780 : decode cL_law 1780 = .ok (.aload_n 2, 1) := by decide +kernel
theorem dL_law_1781 : decode cL_law 1781 = .ok (.invokevirtual 226, 3) := by decide +kernel
theorem dL_law_1784 : decode cL_law 1784 = .ok (.iload 5, 2) := by decide +kernel
theorem dL_law_1786 : decode cL_law 1786 = .ok (.if_icmp .eq 5, 3) := by decide +kernel
theorem dL_law_1789 : decode cL_law 1789 = .ok (.iconst 0, 1) := by decide +kernel
theorem dL_law_1790 : decode cL_law 1790 = .ok (.ireturn, 1) := by decide +kernel
theorem dL_law_1791 : decode cL_law 1791 = .ok (.iload 5, 2) := by decide +kernel
theorem dL_law_1793 : decode cL_law 1793 = .ok (.ifCond .ne 15, 3) := by decide +kernel
theorem dL_law_1796 : decode cL_law 1796 = .ok (.aload_n 3, 1) := by decide +kernel
theorem dL_law_1797 : decode cL_law 1797 = .ok (.iconst 0, 1) := by decide +kernel
theorem dL_law_1798 : decode cL_law 1798 = .ok (.laload, 1) := by decide +kernel
theorem dL_law_1799 : decode cL_law 1799 = .ok (.iload 6, 2) := by decide +kernel
theorem dL_law_1801 : decode cL_law 1801 = .ok (.i2l, 1) := by decide +kernel
theorem dL_law_1802 : decode cL_law 1802 = .ok (.lcmp, 1) := by decide +kernel
theorem dL_law_1803 : decode cL_law 1803 = .ok (.ifCond .eq 5, 3) := by decide +kernel
theorem dL_law_1806 : decode cL_law 1806 = .ok (.iconst 0, 1) := by decide +kernel
theorem dL_law_1807 : decode cL_law 1807 = .ok (.ireturn, 1) := by decide +kernel
theorem dL_law_1808 : decode cL_law 1808 = .ok (.goto 41, 3) := by decide +kernel
theorem dL_law_1811 : decode cL_law 1811 = .ok (.aload_n 1, 1) := by decide +kernel
theorem dL_law_1812 : decode cL_law 1812 = .ok (.aload_n 0, 1) := by decide +kernel
theorem dL_law_1813 : decode cL_law 1813 = .ok (.iload 4, 2) := by decide +kernel
theorem dL_law_1815 : decode cL_law 1815 = .ok (.iconst 1, 1) := by decide +kernel
theorem dL_law_1816 : decode cL_law 1816 = .ok (.iadd, 1) := by decide +kernel
theorem dL_law_1817 : decode cL_law 1817 = .ok (.iaload, 1) := by decide +kernel
theorem dL_law_1818 : decode cL_law 1818 = .ok (.invokevirtual 229, 3) := by decide +kernel
theorem dL_law_1821 : decode cL_law 1821 = .ok (.aload_n 2, 1) := by decide +kernel
theorem dL_law_1822 : decode cL_law 1822 = .ok (.aload_n 0, 1) := by decide +kernel
theorem dL_law_1823 : decode cL_law 1823 = .ok (.iload 4, 2) := by decide +kernel
theorem dL_law_1825 : decode cL_law 1825 = .ok (.iconst 1, 1) := by decide +kernel
theorem dL_law_1826 : decode cL_law 1826 = .ok (.iadd, 1) := by decide +kernel
