/-! LAW: instructions (0) -/
theorem dL_cell_0 : decode cL_cell 0 = .ok (.iload_n 1, 1) := by decide +kernel
theorem dL_cell_1 : decode cL_cell 1 = .ok (.aload_n 0, 1) := by decide +kernel
theorem dL_cell_2 : decode cL_cell 2 = .ok (.arraylength, 1) := by decide +kernel
theorem dL_cell_3 : decode cL_cell 3 = .ok (.if_icmp .ge 9, 3) := by decide +kernel
theorem dL_cell_6 : decode cL_cell 6 = .ok (.aload_n 0, 1) := by decide +kernel
theorem dL_cell_7 : decode cL_cell 7 = .ok (.iload_n 1, 1) := by decide +kernel
theorem dL_cell_8 : decode cL_cell 8 = .ok (.iaload, 1) := by decide +kernel
theorem dL_cell_9 : decode cL_cell 9 = .ok (.goto 15, 3) := by decide +kernel
theorem dL_cell_12 : decode cL_cell 12 = .ok (.sipush 7919, 3) := by decide +kernel
theorem dL_cell_15 : decode cL_cell 15 = .ok (.iload_n 1, 1) := by decide +kernel
theorem dL_cell_16 : decode cL_cell 16 = .ok (.iconst 3, 1) := by decide +kernel
theorem dL_cell_17 : decode cL_cell 17 = .ok (.iadd, 1) := by decide +kernel
theorem dL_cell_18 : decode cL_cell 18 = .ok (.imul, 1) := by decide +kernel
theorem dL_cell_19 : decode cL_cell 19 = .ok (.iload_n 1, 1) := by decide +kernel
theorem dL_cell_20 : decode cL_cell 20 = .ok (.bipush 11, 2) := by decide +kernel
theorem dL_cell_22 : decode cL_cell 22 = .ok (.iadd, 1) := by decide +kernel
theorem dL_cell_23 : decode cL_cell 23 = .ok (.imul, 1) := by decide +kernel
theorem dL_cell_24 : decode cL_cell 24 = .ok (.ireturn, 1) := by decide +kernel
theorem dL_low_0 : decode cL_low 0 = .ok (.iload_n 0, 1) := by decide +kernel
theorem dL_low_1 : decode cL_low 1 = .ok (.ldc 7, 2) := by decide +kernel
theorem dL_low_3 : decode cL_low 3 = .ok (.iand, 1) := by decide +kernel
theorem dL_low_4 : decode cL_low 4 = .ok (.iload_n 1, 1) := by decide +kernel
theorem dL_low_5 : decode cL_low 5 = .ok (.irem, 1) := by decide +kernel
theorem dL_low_6 : decode cL_low 6 = .ok (.ireturn, 1) := by decide +kernel
theorem dL_digest_0 : decode cL_digest 0 = .ok (.ldc2_w 8, 3) := by decide +kernel
theorem dL_digest_3 : decode cL_digest 3 = .ok (.lstore_n 1, 1) := by decide +kernel
theorem dL_digest_4 : decode cL_digest 4 = .ok (.iconst 0, 1) := by decide +kernel
theorem dL_digest_5 : decode cL_digest 5 = .ok (.istore_n 3, 1) := by decide +kernel
theorem dL_digest_6 : decode cL_digest 6 = .ok (.iload_n 3, 1) := by decide +kernel
theorem dL_digest_7 : decode cL_digest 7 = .ok (.iconst 5, 1) := by decide +kernel
theorem dL_digest_8 : decode cL_digest 8 = .ok (.if_icmp .ge 22, 3) := by decide +kernel
theorem dL_digest_11 : decode cL_digest 11 = .ok (.ldc2_w 10, 3) := by decide +kernel
theorem dL_digest_14 : decode cL_digest 14 = .ok (.lload_n 1, 1) := by decide +kernel
theorem dL_digest_15 : decode cL_digest 15 = .ok (.lmul, 1) := by decide +kernel
theorem dL_digest_16 : decode cL_digest 16 = .ok (.aload_n 0, 1) := by decide +kernel
theorem dL_digest_17 : decode cL_digest 17 = .ok (.iload_n 3, 1) := by decide +kernel
theorem dL_digest_18 : decode cL_digest 18 = .ok (.invokevirtual 12, 3) := by decide +kernel
theorem dL_digest_21 : decode cL_digest 21 = .ok (.i2l, 1) := by decide +kernel
theorem dL_digest_22 : decode cL_digest 22 = .ok (.ladd, 1) := by decide +kernel
theorem dL_digest_23 : decode cL_digest 23 = .ok (.lstore_n 1, 1) := by decide +kernel
theorem dL_digest_24 : decode cL_digest 24 = .ok (.iinc 3 1, 3) := by decide +kernel
theorem dL_digest_27 : decode cL_digest 27 = .ok (.goto (-21), 3) := by decide +kernel
theorem dL_digest_30 : decode cL_digest 30 = .ok (.iconst 0, 1) := by decide +kernel
theorem dL_digest_31 : decode cL_digest 31 = .ok (.istore_n 3, 1) := by decide +kernel
theorem dL_digest_32 : decode cL_digest 32 = .ok (.iload_n 3, 1) := by decide +kernel
theorem dL_digest_33 : decode cL_digest 33 = .ok (.aload_n 0, 1) := by decide +kernel
theorem dL_digest_34 : decode cL_digest 34 = .ok (.iconst 0, 1) := by decide +kernel
theorem dL_digest_35 : decode cL_digest 35 = .ok (.invokevirtual 12, 3) := by decide +kernel
theorem dL_digest_38 : decode cL_digest 38 = .ok (.if_icmp .ge 71, 3) := by decide +kernel
theorem dL_digest_41 : decode cL_digest 41 = .ok (.iconst 0, 1) := by decide +kernel
theorem dL_digest_42 : decode cL_digest 42 = .ok (.istore 4, 2) := by decide +kernel
theorem dL_digest_44 : decode cL_digest 44 = .ok (.iload 4, 2) := by decide +kernel
theorem dL_digest_46 : decode cL_digest 46 = .ok (.bipush 8, 2) := by decide +kernel
theorem dL_digest_48 : decode cL_digest 48 = .ok (.if_icmp .ge 24, 3) := by decide +kernel
theorem dL_digest_51 : decode cL_digest 51 = .ok (.ldc2_w 10, 3) := by decide +kernel
theorem dL_digest_54 : decode cL_digest 54 = .ok (.lload_n 1, 1) := by decide +kernel
theorem dL_digest_55 : decode cL_digest 55 = .ok (.lmul, 1) := by decide +kernel
theorem dL_digest_56 : decode cL_digest 56 = .ok (.aload_n 0, 1) := by decide +kernel
theorem dL_digest_57 : decode cL_digest 57 = .ok (.iload_n 3, 1) := by decide +kernel
theorem dL_digest_58 : decode cL_digest 58 = .ok (.iload 4, 2) := by decide +kernel
theorem dL_digest_60 : decode cL_digest 60 = .ok (.invokevirtual 18, 3) := by decide +kernel
theorem dL_digest_63 : decode cL_digest 63 = .ok (.i2l, 1) := by decide +kernel
theorem dL_digest_64 : decode cL_digest 64 = .ok (.ladd, 1) := by decide +kernel
theorem dL_digest_65 : decode cL_digest 65 = .ok (.lstore_n 1, 1) := by decide +kernel
theorem dL_digest_66 : decode cL_digest 66 = .ok (.iinc 4 1, 3) := by decide +kernel
theorem dL_digest_69 : decode cL_digest 69 = .ok (.goto (-25), 3) := by decide +kernel
theorem dL_digest_72 : decode cL_digest 72 = .ok (.iconst 0, 1) := by decide +kernel
theorem dL_digest_73 : decode cL_digest 73 = .ok (.istore 4, 2) := by decide +kernel
theorem dL_digest_75 : decode cL_digest 75 = .ok (.iload 4, 2) := by decide +kernel
theorem dL_digest_77 : decode cL_digest 77 = .ok (.bipush 12, 2) := by decide +kernel
theorem dL_digest_79 : decode cL_digest 79 = .ok (.if_icmp .ge 24, 3) := by decide +kernel
theorem dL_digest_82 : decode cL_digest 82 = .ok (.ldc2_w 10, 3) := by decide +kernel
theorem dL_digest_85 : decode cL_digest 85 = .ok (.lload_n 1, 1) := by decide +kernel
theorem dL_digest_86 : decode cL_digest 86 = .ok (.lmul, 1) := by decide +kernel
theorem dL_digest_87 : decode cL_digest 87 = .ok (.aload_n 0, 1) := by decide +kernel
theorem dL_digest_88 : decode cL_digest 88 = .ok (.iload_n 3, 1) := by decide +kernel
theorem dL_digest_89 : decode cL_digest 89 = .ok (.iload 4, 2) := by decide +kernel
theorem dL_digest_91 : decode cL_digest 91 = .ok (.invokevirtual 22, 3) := by decide +kernel
theorem dL_digest_94 : decode cL_digest 94 = .ok (.i2l, 1) := by decide +kernel
theorem dL_digest_95 : decode cL_digest 95 = .ok (.ladd, 1) := by decide +kernel
theorem dL_digest_96 : decode cL_digest 96 = .ok (.lstore_n 1, 1) := by decide +kernel
theorem dL_digest_97 : decode cL_digest 97 = .ok (.iinc 4 1, 3) := by decide +kernel
theorem dL_digest_100 : decode cL_digest 100 = .ok (.goto (-25), 3) := by decide +kernel
theorem dL_digest_103 : decode cL_digest 103 = .ok (.iinc 3 1, 3) := by decide +kernel
theorem dL_digest_106 : decode cL_digest 106 = .ok (.goto (-74), 3) := by decide +kernel
theorem dL_digest_109 : decode cL_digest 109 = .ok (.iconst 0, 1) := by decide +kernel
theorem dL_digest_110 : decode cL_digest 110 = .ok (.istore_n 3, 1) := by decide +kernel
theorem dL_digest_111 : decode cL_digest 111 = .ok (.iload_n 3, 1) := by decide +kernel
theorem dL_digest_112 : decode cL_digest 112 = .ok (.bipush 10, 2) := by decide +kernel
theorem dL_digest_114 : decode cL_digest 114 = .ok (.if_icmp .ge 22, 3) := by decide +kernel
theorem dL_digest_117 : decode cL_digest 117 = .ok (.ldc2_w 10, 3) := by decide +kernel
theorem dL_digest_120 : decode cL_digest 120 = .ok (.lload_n 1, 1) := by decide +kernel
theorem dL_digest_121 : decode cL_digest 121 = .ok (.lmul, 1) := by decide +kernel
theorem dL_digest_122 : decode cL_digest 122 = .ok (.aload_n 0, 1) := by decide +kernel
theorem dL_digest_123 : decode cL_digest 123 = .ok (.iload_n 3, 1) := by decide +kernel
theorem dL_digest_124 : decode cL_digest 124 = .ok (.invokevirtual 25, 3) := by decide +kernel
theorem dL_digest_127 : decode cL_digest 127 = .ok (.i2l, 1) := by decide +kernel
theorem dL_digest_128 : decode cL_digest 128 = .ok (.ladd, 1) := by decide +kernel
theorem dL_digest_129 : decode cL_digest 129 = .ok (.lstore_n 1, 1) := by decide +kernel
theorem dL_digest_130 : decode cL_digest 130 = .ok (.iinc 3 1, 3) := by decide +kernel
