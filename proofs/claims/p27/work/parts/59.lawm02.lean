/-! LAW: instructions (2) -/
theorem dL_act_212 : decode cL_act 212 = .ok (.iconst 2, 1) := by decide +kernel
theorem dL_act_213 : decode cL_act 213 = .ok (.iload_n 1, 1) := by decide +kernel
theorem dL_act_214 : decode cL_act 214 = .ok (.bipush 7, 2) := by decide +kernel
theorem dL_act_216 : decode cL_act 216 = .ok (.ishr, 1) := by decide +kernel
theorem dL_act_217 : decode cL_act 217 = .ok (.iconst 3, 1) := by decide +kernel
theorem dL_act_218 : decode cL_act 218 = .ok (.invokestatic 28, 3) := by decide +kernel
theorem dL_act_221 : decode cL_act 221 = .ok (.iadd, 1) := by decide +kernel
theorem dL_act_222 : decode cL_act 222 = .ok (.bipush 8, 2) := by decide +kernel
theorem dL_act_224 : decode cL_act 224 = .ok (.iload_n 1, 1) := by decide +kernel
theorem dL_act_225 : decode cL_act 225 = .ok (.bipush 6, 2) := by decide +kernel
theorem dL_act_227 : decode cL_act 227 = .ok (.ishr, 1) := by decide +kernel
theorem dL_act_228 : decode cL_act 228 = .ok (.bipush 20, 2) := by decide +kernel
theorem dL_act_230 : decode cL_act 230 = .ok (.invokestatic 28, 3) := by decide +kernel
theorem dL_act_233 : decode cL_act 233 = .ok (.iadd, 1) := by decide +kernel
theorem dL_act_234 : decode cL_act 234 = .ok (.invokevirtual 60, 3) := by decide +kernel
theorem dL_act_237 : decode cL_act 237 = .ok (.ireturn, 1) := by decide +kernel
theorem dL_isRight_0 : decode cL_isRight 0 = .ok (.iconst 0, 1) := by decide +kernel
theorem dL_isRight_1 : decode cL_isRight 1 = .ok (.istore_n 1, 1) := by decide +kernel
theorem dL_isRight_2 : decode cL_isRight 2 = .ok (.iconst 0, 1) := by decide +kernel
theorem dL_isRight_3 : decode cL_isRight 3 = .ok (.istore_n 2, 1) := by decide +kernel
theorem dL_isRight_4 : decode cL_isRight 4 = .ok (.iconst 0, 1) := by decide +kernel
theorem dL_isRight_5 : decode cL_isRight 5 = .ok (.istore_n 3, 1) := by decide +kernel
theorem dL_isRight_6 : decode cL_isRight 6 = .ok (.iload_n 3, 1) := by decide +kernel
theorem dL_isRight_7 : decode cL_isRight 7 = .ok (.aload_n 0, 1) := by decide +kernel
theorem dL_isRight_8 : decode cL_isRight 8 = .ok (.iconst 0, 1) := by decide +kernel
theorem dL_isRight_9 : decode cL_isRight 9 = .ok (.invokevirtual 12, 3) := by decide +kernel
theorem dL_isRight_12 : decode cL_isRight 12 = .ok (.if_icmp .ge 378, 3) := by decide +kernel
theorem dL_isRight_15 : decode cL_isRight 15 = .ok (.aload_n 0, 1) := by decide +kernel
theorem dL_isRight_16 : decode cL_isRight 16 = .ok (.iload_n 3, 1) := by decide +kernel
theorem dL_isRight_17 : decode cL_isRight 17 = .ok (.iconst 4, 1) := by decide +kernel
theorem dL_isRight_18 : decode cL_isRight 18 = .ok (.invokevirtual 18, 3) := by decide +kernel
theorem dL_isRight_21 : decode cL_isRight 21 = .ok (.istore 4, 2) := by decide +kernel
theorem dL_isRight_23 : decode cL_isRight 23 = .ok (.iload_n 1, 1) := by decide +kernel
theorem dL_isRight_24 : decode cL_isRight 24 = .ok (.iload 4, 2) := by decide +kernel
theorem dL_isRight_26 : decode cL_isRight 26 = .ok (.ifCond .lt 7, 3) := by decide +kernel
theorem dL_isRight_29 : decode cL_isRight 29 = .ok (.iconst 1, 1) := by decide +kernel
theorem dL_isRight_30 : decode cL_isRight 30 = .ok (.goto 4, 3) := by decide +kernel
theorem dL_isRight_33 : decode cL_isRight 33 = .ok (.iconst 0, 1) := by decide +kernel
theorem dL_isRight_34 : decode cL_isRight 34 = .ok (.iadd, 1) := by decide +kernel
theorem dL_isRight_35 : decode cL_isRight 35 = .ok (.istore_n 1, 1) := by decide +kernel
theorem dL_isRight_36 : decode cL_isRight 36 = .ok (.aload_n 0, 1) := by decide +kernel
theorem dL_isRight_37 : decode cL_isRight 37 = .ok (.iload_n 3, 1) := by decide +kernel
theorem dL_isRight_38 : decode cL_isRight 38 = .ok (.iconst 0, 1) := by decide +kernel
theorem dL_isRight_39 : decode cL_isRight 39 = .ok (.invokevirtual 18, 3) := by decide +kernel
theorem dL_isRight_42 : decode cL_isRight 42 = .ok (.istore 5, 2) := by decide +kernel
theorem dL_isRight_44 : decode cL_isRight 44 = .ok (.aload_n 0, 1) := by decide +kernel
theorem dL_isRight_45 : decode cL_isRight 45 = .ok (.iload_n 3, 1) := by decide +kernel
theorem dL_isRight_46 : decode cL_isRight 46 = .ok (.bipush 6, 2) := by decide +kernel
theorem dL_isRight_48 : decode cL_isRight 48 = .ok (.invokevirtual 18, 3) := by decide +kernel
theorem dL_isRight_51 : decode cL_isRight 51 = .ok (.istore 6, 2) := by decide +kernel
theorem dL_isRight_53 : decode cL_isRight 53 = .ok (.iload 4, 2) := by decide +kernel
theorem dL_isRight_55 : decode cL_isRight 55 = .ok (.ifCond .lt 7, 3) := by decide +kernel
theorem dL_isRight_58 : decode cL_isRight 58 = .ok (.iconst 1, 1) := by decide +kernel
theorem dL_isRight_59 : decode cL_isRight 59 = .ok (.goto 4, 3) := by decide +kernel
theorem dL_isRight_62 : decode cL_isRight 62 = .ok (.iconst 0, 1) := by decide +kernel
theorem dL_isRight_63 : decode cL_isRight 63 = .ok (.aload_n 0, 1) := by decide +kernel
theorem dL_isRight_64 : decode cL_isRight 64 = .ok (.iload_n 3, 1) := by decide +kernel
theorem dL_isRight_65 : decode cL_isRight 65 = .ok (.iconst 5, 1) := by decide +kernel
theorem dL_isRight_66 : decode cL_isRight 66 = .ok (.invokevirtual 18, 3) := by decide +kernel
theorem dL_isRight_69 : decode cL_isRight 69 = .ok (.ifCond .lt 7, 3) := by decide +kernel
theorem dL_isRight_72 : decode cL_isRight 72 = .ok (.iconst 1, 1) := by decide +kernel
theorem dL_isRight_73 : decode cL_isRight 73 = .ok (.goto 4, 3) := by decide +kernel
theorem dL_isRight_76 : decode cL_isRight 76 = .ok (.iconst 0, 1) := by decide +kernel
theorem dL_isRight_77 : decode cL_isRight 77 = .ok (.if_icmp .ne 90, 3) := by decide +kernel
theorem dL_isRight_80 : decode cL_isRight 80 = .ok (.iload 4, 2) := by decide +kernel
theorem dL_isRight_82 : decode cL_isRight 82 = .ok (.ifCond .lt 87, 3) := by decide +kernel
theorem dL_isRight_85 : decode cL_isRight 85 = .ok (.iload 6, 2) := by decide +kernel
theorem dL_isRight_87 : decode cL_isRight 87 = .ok (.iload 5, 2) := by decide +kernel
theorem dL_isRight_89 : decode cL_isRight 89 = .ok (.if_icmp .lt 78, 3) := by decide +kernel
theorem dL_isRight_92 : decode cL_isRight 92 = .ok (.aload_n 0, 1) := by decide +kernel
theorem dL_isRight_93 : decode cL_isRight 93 = .ok (.iload_n 3, 1) := by decide +kernel
theorem dL_isRight_94 : decode cL_isRight 94 = .ok (.iconst 5, 1) := by decide +kernel
theorem dL_isRight_95 : decode cL_isRight 95 = .ok (.invokevirtual 18, 3) := by decide +kernel
theorem dL_isRight_98 : decode cL_isRight 98 = .ok (.aload_n 0, 1) := by decide +kernel
theorem dL_isRight_99 : decode cL_isRight 99 = .ok (.iload_n 3, 1) := by decide +kernel
theorem dL_isRight_100 : decode cL_isRight 100 = .ok (.bipush 7, 2) := by decide +kernel
theorem dL_isRight_102 : decode cL_isRight 102 = .ok (.invokevirtual 18, 3) := by decide +kernel
theorem dL_isRight_105 : decode cL_isRight 105 = .ok (.iadd, 1) := by decide +kernel
theorem dL_isRight_106 : decode cL_isRight 106 = .ok (.bipush 40, 2) := by decide +kernel
theorem dL_isRight_108 : decode cL_isRight 108 = .ok (.if_icmp .gt 59, 3) := by decide +kernel
theorem dL_isRight_111 : decode cL_isRight 111 = .ok (.aload_n 0, 1) := by decide +kernel
theorem dL_isRight_112 : decode cL_isRight 112 = .ok (.iload_n 3, 1) := by decide +kernel
theorem dL_isRight_113 : decode cL_isRight 113 = .ok (.iload 5, 2) := by decide +kernel
theorem dL_isRight_115 : decode cL_isRight 115 = .ok (.iconst 0, 1) := by decide +kernel
theorem dL_isRight_116 : decode cL_isRight 116 = .ok (.invokevirtual 63, 3) := by decide +kernel
theorem dL_isRight_119 : decode cL_isRight 119 = .ok (.iload 4, 2) := by decide +kernel
theorem dL_isRight_121 : decode cL_isRight 121 = .ok (.if_icmp .ne 46, 3) := by decide +kernel
theorem dL_isRight_124 : decode cL_isRight 124 = .ok (.aload_n 0, 1) := by decide +kernel
theorem dL_isRight_125 : decode cL_isRight 125 = .ok (.iload_n 3, 1) := by decide +kernel
theorem dL_isRight_126 : decode cL_isRight 126 = .ok (.iload 5, 2) := by decide +kernel
theorem dL_isRight_128 : decode cL_isRight 128 = .ok (.iconst 1, 1) := by decide +kernel
theorem dL_isRight_129 : decode cL_isRight 129 = .ok (.invokevirtual 63, 3) := by decide +kernel
theorem dL_isRight_132 : decode cL_isRight 132 = .ok (.aload_n 0, 1) := by decide +kernel
theorem dL_isRight_133 : decode cL_isRight 133 = .ok (.iload_n 3, 1) := by decide +kernel
theorem dL_isRight_134 : decode cL_isRight 134 = .ok (.iconst 5, 1) := by decide +kernel
theorem dL_isRight_135 : decode cL_isRight 135 = .ok (.invokevirtual 18, 3) := by decide +kernel
theorem dL_isRight_138 : decode cL_isRight 138 = .ok (.if_icmp .ne 29, 3) := by decide +kernel
theorem dL_isRight_141 : decode cL_isRight 141 = .ok (.aload_n 0, 1) := by decide +kernel
theorem dL_isRight_142 : decode cL_isRight 142 = .ok (.iload_n 3, 1) := by decide +kernel
theorem dL_isRight_143 : decode cL_isRight 143 = .ok (.iload 6, 2) := by decide +kernel
