theorem dL_cell_0 : decode cL_cell 0 = .ok (.iload_n 1, 1) := by decide +kernel
theorem dL_cell_1 : decode cL_cell 1 = .ok (.aload_n 0, 1) := by decide +kernel
theorem dL_cell_2 : decode cL_cell 2 = .ok (.arraylength, 1) := by decide +kernel
theorem dL_cell_3 : decode cL_cell 3 = .ok (.if_icmp .ge 9, 3) := by decide +kernel
theorem dL_cell_6 : decode cL_cell 6 = .ok (.aload_n 0, 1) := by decide +kernel
theorem dL_cell_7 : decode cL_cell 7 = .ok (.iload_n 1, 1) := by decide +kernel
theorem dL_cell_8 : decode cL_cell 8 = .ok (.iaload, 1) := by decide +kernel
theorem dL_cell_9 : decode cL_cell 9 = .ok (.goto 10, 3) := by decide +kernel
theorem dL_cell_12 : decode cL_cell 12 = .ok (.ldc 7, 2) := by decide +kernel
theorem dL_cell_14 : decode cL_cell 14 = .ok (.iload_n 1, 1) := by decide +kernel
theorem dL_cell_15 : decode cL_cell 15 = .ok (.bipush 113, 2) := by decide +kernel
theorem dL_cell_17 : decode cL_cell 17 = .ok (.iadd, 1) := by decide +kernel
theorem dL_cell_18 : decode cL_cell 18 = .ok (.imul, 1) := by decide +kernel
theorem dL_cell_19 : decode cL_cell 19 = .ok (.ldc 8, 2) := by decide +kernel
theorem dL_cell_21 : decode cL_cell 21 = .ok (.iand, 1) := by decide +kernel
theorem dL_cell_22 : decode cL_cell 22 = .ok (.ireturn, 1) := by decide +kernel
theorem dL_bits_0 : decode cL_bits 0 = .ok (.iconst 0, 1) := by decide +kernel
theorem dL_bits_1 : decode cL_bits 1 = .ok (.istore_n 1, 1) := by decide +kernel
theorem dL_bits_2 : decode cL_bits 2 = .ok (.iconst 0, 1) := by decide +kernel
theorem dL_bits_3 : decode cL_bits 3 = .ok (.istore_n 2, 1) := by decide +kernel
theorem dL_bits_4 : decode cL_bits 4 = .ok (.iload_n 2, 1) := by decide +kernel
theorem dL_bits_5 : decode cL_bits 5 = .ok (.bipush 16, 2) := by decide +kernel
theorem dL_bits_7 : decode cL_bits 7 = .ok (.if_icmp .ge 17, 3) := by decide +kernel
theorem dL_bits_10 : decode cL_bits 10 = .ok (.iload_n 1, 1) := by decide +kernel
theorem dL_bits_11 : decode cL_bits 11 = .ok (.iload_n 0, 1) := by decide +kernel
theorem dL_bits_12 : decode cL_bits 12 = .ok (.iload_n 2, 1) := by decide +kernel
theorem dL_bits_13 : decode cL_bits 13 = .ok (.ishr, 1) := by decide +kernel
theorem dL_bits_14 : decode cL_bits 14 = .ok (.iconst 1, 1) := by decide +kernel
theorem dL_bits_15 : decode cL_bits 15 = .ok (.iand, 1) := by decide +kernel
theorem dL_bits_16 : decode cL_bits 16 = .ok (.iadd, 1) := by decide +kernel
theorem dL_bits_17 : decode cL_bits 17 = .ok (.istore_n 1, 1) := by decide +kernel
theorem dL_bits_18 : decode cL_bits 18 = .ok (.iinc 2 1, 3) := by decide +kernel
theorem dL_bits_21 : decode cL_bits 21 = .ok (.goto (-17), 3) := by decide +kernel
theorem dL_bits_24 : decode cL_bits 24 = .ok (.iload_n 1, 1) := by decide +kernel
theorem dL_bits_25 : decode cL_bits 25 = .ok (.ireturn, 1) := by decide +kernel
theorem dL_holds_0 : decode cL_holds 0 = .ok (.aload_n 0, 1) := by decide +kernel
theorem dL_holds_1 : decode cL_holds 1 = .ok (.iload_n 1, 1) := by decide +kernel
theorem dL_holds_2 : decode cL_holds 2 = .ok (.iconst 3, 1) := by decide +kernel
theorem dL_holds_3 : decode cL_holds 3 = .ok (.invokevirtual 9, 3) := by decide +kernel
theorem dL_holds_6 : decode cL_holds 6 = .ok (.istore_n 2, 1) := by decide +kernel
theorem dL_holds_7 : decode cL_holds 7 = .ok (.aload_n 0, 1) := by decide +kernel
theorem dL_holds_8 : decode cL_holds 8 = .ok (.iload_n 1, 1) := by decide +kernel
theorem dL_holds_9 : decode cL_holds 9 = .ok (.iconst 2, 1) := by decide +kernel
theorem dL_holds_10 : decode cL_holds 10 = .ok (.invokevirtual 9, 3) := by decide +kernel
theorem dL_holds_13 : decode cL_holds 13 = .ok (.istore_n 3, 1) := by decide +kernel
theorem dL_holds_14 : decode cL_holds 14 = .ok (.aload_n 0, 1) := by decide +kernel
theorem dL_holds_15 : decode cL_holds 15 = .ok (.iload_n 1, 1) := by decide +kernel
theorem dL_holds_16 : decode cL_holds 16 = .ok (.iconst 4, 1) := by decide +kernel
theorem dL_holds_17 : decode cL_holds 17 = .ok (.invokevirtual 9, 3) := by decide +kernel
theorem dL_holds_20 : decode cL_holds 20 = .ok (.istore 4, 2) := by decide +kernel
theorem dL_holds_22 : decode cL_holds 22 = .ok (.aload_n 0, 1) := by decide +kernel
theorem dL_holds_23 : decode cL_holds 23 = .ok (.iload_n 1, 1) := by decide +kernel
theorem dL_holds_24 : decode cL_holds 24 = .ok (.iconst 5, 1) := by decide +kernel
theorem dL_holds_25 : decode cL_holds 25 = .ok (.invokevirtual 9, 3) := by decide +kernel
theorem dL_holds_28 : decode cL_holds 28 = .ok (.istore 5, 2) := by decide +kernel
theorem dL_holds_30 : decode cL_holds 30 = .ok (.iload_n 2, 1) := by decide +kernel
theorem dL_holds_31 : decode cL_holds 31 = .ok (.iload_n 3, 1) := by decide +kernel
theorem dL_holds_32 : decode cL_holds 32 = .ok (.ishr, 1) := by decide +kernel
theorem dL_holds_33 : decode cL_holds 33 = .ok (.iconst 1, 1) := by decide +kernel
theorem dL_holds_34 : decode cL_holds 34 = .ok (.iand, 1) := by decide +kernel
theorem dL_holds_35 : decode cL_holds 35 = .ok (.iconst 1, 1) := by decide +kernel
theorem dL_holds_36 : decode cL_holds 36 = .ok (.if_icmp .ne 36, 3) := by decide +kernel
theorem dL_holds_39 : decode cL_holds 39 = .ok (.iload 5, 2) := by decide +kernel
theorem dL_holds_41 : decode cL_holds 41 = .ok (.iconst 1, 1) := by decide +kernel
theorem dL_holds_42 : decode cL_holds 42 = .ok (.if_icmp .lt 30, 3) := by decide +kernel
theorem dL_holds_45 : decode cL_holds 45 = .ok (.iload 5, 2) := by decide +kernel
theorem dL_holds_47 : decode cL_holds 47 = .ok (.iload_n 2, 1) := by decide +kernel
theorem dL_holds_48 : decode cL_holds 48 = .ok (.invokestatic 15, 3) := by decide +kernel
theorem dL_holds_51 : decode cL_holds 51 = .ok (.if_icmp .gt 21, 3) := by decide +kernel
theorem dL_holds_54 : decode cL_holds 54 = .ok (.iload 4, 2) := by decide +kernel
theorem dL_holds_56 : decode cL_holds 56 = .ok (.bipush 15, 2) := by decide +kernel
theorem dL_holds_58 : decode cL_holds 58 = .ok (.if_icmp .lt 10, 3) := by decide +kernel
theorem dL_holds_61 : decode cL_holds 61 = .ok (.iload_n 2, 1) := by decide +kernel
theorem dL_holds_62 : decode cL_holds 62 = .ok (.iconst 1, 1) := by decide +kernel
theorem dL_holds_63 : decode cL_holds 63 = .ok (.iload_n 3, 1) := by decide +kernel
theorem dL_holds_64 : decode cL_holds 64 = .ok (.ishl, 1) := by decide +kernel
theorem dL_holds_65 : decode cL_holds 65 = .ok (.if_icmp .ne 7, 3) := by decide +kernel
theorem dL_holds_68 : decode cL_holds 68 = .ok (.iconst 1, 1) := by decide +kernel
theorem dL_holds_69 : decode cL_holds 69 = .ok (.goto 4, 3) := by decide +kernel
theorem dL_holds_72 : decode cL_holds 72 = .ok (.iconst 0, 1) := by decide +kernel
theorem dL_holds_73 : decode cL_holds 73 = .ok (.istore 6, 2) := by decide +kernel
theorem dL_holds_75 : decode cL_holds 75 = .ok (.iconst 0, 1) := by decide +kernel
theorem dL_holds_76 : decode cL_holds 76 = .ok (.istore 7, 2) := by decide +kernel
theorem dL_holds_78 : decode cL_holds 78 = .ok (.iload 7, 2) := by decide +kernel
theorem dL_holds_80 : decode cL_holds 80 = .ok (.bipush 16, 2) := by decide +kernel
theorem dL_holds_82 : decode cL_holds 82 = .ok (.if_icmp .ge 82, 3) := by decide +kernel
theorem dL_holds_85 : decode cL_holds 85 = .ok (.iload 6, 2) := by decide +kernel
theorem dL_holds_87 : decode cL_holds 87 = .ok (.ifCond .eq 77, 3) := by decide +kernel
theorem dL_holds_90 : decode cL_holds 90 = .ok (.iconst 0, 1) := by decide +kernel
theorem dL_holds_91 : decode cL_holds 91 = .ok (.istore 8, 2) := by decide +kernel
theorem dL_holds_93 : decode cL_holds 93 = .ok (.iload 8, 2) := by decide +kernel
theorem dL_holds_95 : decode cL_holds 95 = .ok (.iconst 4, 1) := by decide +kernel
theorem dL_holds_96 : decode cL_holds 96 = .ok (.if_icmp .ge 62, 3) := by decide +kernel
theorem dL_holds_99 : decode cL_holds 99 = .ok (.iload_n 2, 1) := by decide +kernel
theorem dL_holds_100 : decode cL_holds 100 = .ok (.iload 7, 2) := by decide +kernel
theorem dL_holds_102 : decode cL_holds 102 = .ok (.ishr, 1) := by decide +kernel
theorem dL_holds_103 : decode cL_holds 103 = .ok (.iconst 1, 1) := by decide +kernel
theorem dL_holds_104 : decode cL_holds 104 = .ok (.iand, 1) := by decide +kernel
theorem dL_holds_105 : decode cL_holds 105 = .ok (.iconst 1, 1) := by decide +kernel
theorem dL_holds_106 : decode cL_holds 106 = .ok (.if_icmp .ne 52, 3) := by decide +kernel
theorem dL_holds_109 : decode cL_holds 109 = .ok (.aload_n 0, 1) := by decide +kernel
theorem dL_holds_110 : decode cL_holds 110 = .ok (.iload_n 1, 1) := by decide +kernel
theorem dL_holds_111 : decode cL_holds 111 = .ok (.iload 7, 2) := by decide +kernel
theorem dL_holds_113 : decode cL_holds 113 = .ok (.iload 8, 2) := by decide +kernel
theorem dL_holds_115 : decode cL_holds 115 = .ok (.invokevirtual 21, 3) := by decide +kernel
theorem dL_holds_118 : decode cL_holds 118 = .ok (.istore 9, 2) := by decide +kernel
theorem dL_holds_120 : decode cL_holds 120 = .ok (.iload 6, 2) := by decide +kernel
theorem dL_holds_122 : decode cL_holds 122 = .ok (.ifCond .eq 27, 3) := by decide +kernel
theorem dL_holds_125 : decode cL_holds 125 = .ok (.iload_n 2, 1) := by decide +kernel
theorem dL_holds_126 : decode cL_holds 126 = .ok (.iload 9, 2) := by decide +kernel
theorem dL_holds_128 : decode cL_holds 128 = .ok (.ishr, 1) := by decide +kernel
theorem dL_holds_129 : decode cL_holds 129 = .ok (.iconst 1, 1) := by decide +kernel
theorem dL_holds_130 : decode cL_holds 130 = .ok (.iand, 1) := by decide +kernel
theorem dL_holds_131 : decode cL_holds 131 = .ok (.iconst 1, 1) := by decide +kernel
theorem dL_holds_132 : decode cL_holds 132 = .ok (.if_icmp .ne 17, 3) := by decide +kernel
theorem dL_holds_135 : decode cL_holds 135 = .ok (.iload 9, 2) := by decide +kernel
theorem dL_holds_137 : decode cL_holds 137 = .ok (.iload_n 3, 1) := by decide +kernel
theorem dL_holds_138 : decode cL_holds 138 = .ok (.ixor, 1) := by decide +kernel
theorem dL_holds_139 : decode cL_holds 139 = .ok (.iload 4, 2) := by decide +kernel
theorem dL_holds_141 : decode cL_holds 141 = .ok (.iand, 1) := by decide +kernel
theorem dL_holds_142 : decode cL_holds 142 = .ok (.ifCond .ne 7, 3) := by decide +kernel
theorem dL_holds_145 : decode cL_holds 145 = .ok (.iconst 1, 1) := by decide +kernel
theorem dL_holds_146 : decode cL_holds 146 = .ok (.goto 4, 3) := by decide +kernel
theorem dL_holds_149 : decode cL_holds 149 = .ok (.iconst 0, 1) := by decide +kernel
theorem dL_holds_150 : decode cL_holds 150 = .ok (.istore 6, 2) := by decide +kernel
theorem dL_holds_152 : decode cL_holds 152 = .ok (.iinc 8 1, 3) := by decide +kernel
theorem dL_holds_155 : decode cL_holds 155 = .ok (.goto (-62), 3) := by decide +kernel
theorem dL_holds_158 : decode cL_holds 158 = .ok (.iinc 7 1, 3) := by decide +kernel
theorem dL_holds_161 : decode cL_holds 161 = .ok (.goto (-83), 3) := by decide +kernel
theorem dL_holds_164 : decode cL_holds 164 = .ok (.iload 6, 2) := by decide +kernel
theorem dL_holds_166 : decode cL_holds 166 = .ok (.ifCond .eq 25, 3) := by decide +kernel
theorem dL_holds_169 : decode cL_holds 169 = .ok (.aload_n 0, 1) := by decide +kernel
theorem dL_holds_170 : decode cL_holds 170 = .ok (.iload_n 1, 1) := by decide +kernel
theorem dL_holds_171 : decode cL_holds 171 = .ok (.bipush 6, 2) := by decide +kernel
theorem dL_holds_173 : decode cL_holds 173 = .ok (.invokevirtual 9, 3) := by decide +kernel
theorem dL_holds_176 : decode cL_holds 176 = .ok (.iconst 1, 1) := by decide +kernel
theorem dL_holds_177 : decode cL_holds 177 = .ok (.aload_n 0, 1) := by decide +kernel
theorem dL_holds_178 : decode cL_holds 178 = .ok (.iload_n 1, 1) := by decide +kernel
theorem dL_holds_179 : decode cL_holds 179 = .ok (.iconst 0, 1) := by decide +kernel
theorem dL_holds_180 : decode cL_holds 180 = .ok (.invokevirtual 9, 3) := by decide +kernel
theorem dL_holds_183 : decode cL_holds 183 = .ok (.ishl, 1) := by decide +kernel
theorem dL_holds_184 : decode cL_holds 184 = .ok (.if_icmp .ge 7, 3) := by decide +kernel
theorem dL_holds_187 : decode cL_holds 187 = .ok (.iconst 1, 1) := by decide +kernel
theorem dL_holds_188 : decode cL_holds 188 = .ok (.goto 4, 3) := by decide +kernel
theorem dL_holds_191 : decode cL_holds 191 = .ok (.iconst 0, 1) := by decide +kernel
theorem dL_holds_192 : decode cL_holds 192 = .ok (.ireturn, 1) := by decide +kernel
theorem dL_apart_0 : decode cL_apart 0 = .ok (.aload_n 0, 1) := by decide +kernel
theorem dL_apart_1 : decode cL_apart 1 = .ok (.iconst (-1), 1) := by decide +kernel
theorem dL_apart_2 : decode cL_apart 2 = .ok (.invokevirtual 25, 3) := by decide +kernel
theorem dL_apart_5 : decode cL_apart 5 = .ok (.istore_n 1, 1) := by decide +kernel
theorem dL_apart_6 : decode cL_apart 6 = .ok (.iload_n 1, 1) := by decide +kernel
theorem dL_apart_7 : decode cL_apart 7 = .ok (.ifCond .ge 54, 3) := by decide +kernel
theorem dL_apart_10 : decode cL_apart 10 = .ok (.iload_n 1, 1) := by decide +kernel
theorem dL_apart_11 : decode cL_apart 11 = .ok (.ldc 28, 2) := by decide +kernel
theorem dL_apart_13 : decode cL_apart 13 = .ok (.if_icmp .ne 46, 3) := by decide +kernel
theorem dL_apart_16 : decode cL_apart 16 = .ok (.aload_n 0, 1) := by decide +kernel
theorem dL_apart_17 : decode cL_apart 17 = .ok (.iconst 1, 1) := by decide +kernel
theorem dL_apart_18 : decode cL_apart 18 = .ok (.invokevirtual 29, 3) := by decide +kernel
theorem dL_apart_21 : decode cL_apart 21 = .ok (.iconst 1, 1) := by decide +kernel
theorem dL_apart_22 : decode cL_apart 22 = .ok (.if_icmp .ne 37, 3) := by decide +kernel
theorem dL_apart_25 : decode cL_apart 25 = .ok (.aload_n 0, 1) := by decide +kernel
theorem dL_apart_26 : decode cL_apart 26 = .ok (.invokevirtual 32, 3) := by decide +kernel
theorem dL_apart_29 : decode cL_apart 29 = .ok (.ifCond .ne 30, 3) := by decide +kernel
theorem dL_apart_32 : decode cL_apart 32 = .ok (.aload_n 0, 1) := by decide +kernel
theorem dL_apart_33 : decode cL_apart 33 = .ok (.iconst 0, 1) := by decide +kernel
theorem dL_apart_34 : decode cL_apart 34 = .ok (.bipush 27, 2) := by decide +kernel
theorem dL_apart_36 : decode cL_apart 36 = .ok (.bipush 16, 2) := by decide +kernel
theorem dL_apart_38 : decode cL_apart 38 = .ok (.iconst 1, 1) := by decide +kernel
theorem dL_apart_39 : decode cL_apart 39 = .ok (.invokevirtual 36, 3) := by decide +kernel
theorem dL_apart_42 : decode cL_apart 42 = .ok (.aload_n 0, 1) := by decide +kernel
theorem dL_apart_43 : decode cL_apart 43 = .ok (.iconst 1, 1) := by decide +kernel
theorem dL_apart_44 : decode cL_apart 44 = .ok (.bipush 27, 2) := by decide +kernel
theorem dL_apart_46 : decode cL_apart 46 = .ok (.bipush 16, 2) := by decide +kernel
theorem dL_apart_48 : decode cL_apart 48 = .ok (.iconst 1, 1) := by decide +kernel
theorem dL_apart_49 : decode cL_apart 49 = .ok (.invokevirtual 36, 3) := by decide +kernel
theorem dL_apart_52 : decode cL_apart 52 = .ok (.if_icmp .ne 7, 3) := by decide +kernel
theorem dL_apart_55 : decode cL_apart 55 = .ok (.iconst 1, 1) := by decide +kernel
theorem dL_apart_56 : decode cL_apart 56 = .ok (.goto 4, 3) := by decide +kernel
theorem dL_apart_59 : decode cL_apart 59 = .ok (.iconst 0, 1) := by decide +kernel
theorem dL_apart_60 : decode cL_apart 60 = .ok (.ireturn, 1) := by decide +kernel
theorem dL_apart_61 : decode cL_apart 61 = .ok (.iload_n 1, 1) := by decide +kernel
theorem dL_apart_62 : decode cL_apart 62 = .ok (.bipush 15, 2) := by decide +kernel
theorem dL_apart_64 : decode cL_apart 64 = .ok (.if_icmp .le 17, 3) := by decide +kernel
theorem dL_apart_67 : decode cL_apart 67 = .ok (.aload_n 0, 1) := by decide +kernel
theorem dL_apart_68 : decode cL_apart 68 = .ok (.iconst 1, 1) := by decide +kernel
theorem dL_apart_69 : decode cL_apart 69 = .ok (.invokevirtual 29, 3) := by decide +kernel
theorem dL_apart_72 : decode cL_apart 72 = .ok (.ifCond .ne 7, 3) := by decide +kernel
theorem dL_apart_75 : decode cL_apart 75 = .ok (.iconst 1, 1) := by decide +kernel
theorem dL_apart_76 : decode cL_apart 76 = .ok (.goto 4, 3) := by decide +kernel
theorem dL_apart_79 : decode cL_apart 79 = .ok (.iconst 0, 1) := by decide +kernel
theorem dL_apart_80 : decode cL_apart 80 = .ok (.ireturn, 1) := by decide +kernel
theorem dL_apart_81 : decode cL_apart 81 = .ok (.iconst 0, 1) := by decide +kernel
theorem dL_apart_82 : decode cL_apart 82 = .ok (.istore_n 2, 1) := by decide +kernel
theorem dL_apart_83 : decode cL_apart 83 = .ok (.iload_n 1, 1) := by decide +kernel
theorem dL_apart_84 : decode cL_apart 84 = .ok (.iconst 1, 1) := by decide +kernel
theorem dL_apart_85 : decode cL_apart 85 = .ok (.isub, 1) := by decide +kernel
theorem dL_apart_86 : decode cL_apart 86 = .ok (.istore_n 3, 1) := by decide +kernel
theorem dL_apart_87 : decode cL_apart 87 = .ok (.iload_n 3, 1) := by decide +kernel
theorem dL_apart_88 : decode cL_apart 88 = .ok (.ifCond .lt 19, 3) := by decide +kernel
theorem dL_apart_91 : decode cL_apart 91 = .ok (.iconst 4, 1) := by decide +kernel
theorem dL_apart_92 : decode cL_apart 92 = .ok (.iload_n 2, 1) := by decide +kernel
theorem dL_apart_93 : decode cL_apart 93 = .ok (.imul, 1) := by decide +kernel
theorem dL_apart_94 : decode cL_apart 94 = .ok (.aload_n 0, 1) := by decide +kernel
theorem dL_apart_95 : decode cL_apart 95 = .ok (.iload_n 3, 1) := by decide +kernel
theorem dL_apart_96 : decode cL_apart 96 = .ok (.invokevirtual 25, 3) := by decide +kernel
theorem dL_apart_99 : decode cL_apart 99 = .ok (.iadd, 1) := by decide +kernel
theorem dL_apart_100 : decode cL_apart 100 = .ok (.istore_n 2, 1) := by decide +kernel
theorem dL_apart_101 : decode cL_apart 101 = .ok (.iinc 3 (-1), 3) := by decide +kernel
theorem dL_apart_104 : decode cL_apart 104 = .ok (.goto (-17), 3) := by decide +kernel
theorem dL_apart_107 : decode cL_apart 107 = .ok (.aload_n 0, 1) := by decide +kernel
theorem dL_apart_108 : decode cL_apart 108 = .ok (.iconst 1, 1) := by decide +kernel
theorem dL_apart_109 : decode cL_apart 109 = .ok (.invokevirtual 29, 3) := by decide +kernel
theorem dL_apart_112 : decode cL_apart 112 = .ok (.ifCond .ne 65, 3) := by decide +kernel
theorem dL_apart_115 : decode cL_apart 115 = .ok (.aload_n 0, 1) := by decide +kernel
theorem dL_apart_116 : decode cL_apart 116 = .ok (.invokevirtual 32, 3) := by decide +kernel
theorem dL_apart_119 : decode cL_apart 119 = .ok (.ifCond .eq 58, 3) := by decide +kernel
theorem dL_apart_122 : decode cL_apart 122 = .ok (.aload_n 0, 1) := by decide +kernel
theorem dL_apart_123 : decode cL_apart 123 = .ok (.iconst 0, 1) := by decide +kernel
theorem dL_apart_124 : decode cL_apart 124 = .ok (.iload_n 2, 1) := by decide +kernel
theorem dL_apart_125 : decode cL_apart 125 = .ok (.iload_n 1, 1) := by decide +kernel
theorem dL_apart_126 : decode cL_apart 126 = .ok (.iconst 1, 1) := by decide +kernel
theorem dL_apart_127 : decode cL_apart 127 = .ok (.invokevirtual 36, 3) := by decide +kernel
theorem dL_apart_130 : decode cL_apart 130 = .ok (.aload_n 0, 1) := by decide +kernel
theorem dL_apart_131 : decode cL_apart 131 = .ok (.iconst 1, 1) := by decide +kernel
theorem dL_apart_132 : decode cL_apart 132 = .ok (.iload_n 2, 1) := by decide +kernel
theorem dL_apart_133 : decode cL_apart 133 = .ok (.iload_n 1, 1) := by decide +kernel
theorem dL_apart_134 : decode cL_apart 134 = .ok (.iconst 1, 1) := by decide +kernel
theorem dL_apart_135 : decode cL_apart 135 = .ok (.invokevirtual 36, 3) := by decide +kernel
theorem dL_apart_138 : decode cL_apart 138 = .ok (.ixor, 1) := by decide +kernel
theorem dL_apart_139 : decode cL_apart 139 = .ok (.iconst 1, 1) := by decide +kernel
theorem dL_apart_140 : decode cL_apart 140 = .ok (.iload_n 1, 1) := by decide +kernel
theorem dL_apart_141 : decode cL_apart 141 = .ok (.iconst 1, 1) := by decide +kernel
theorem dL_apart_142 : decode cL_apart 142 = .ok (.isub, 1) := by decide +kernel
theorem dL_apart_143 : decode cL_apart 143 = .ok (.ishl, 1) := by decide +kernel
theorem dL_apart_144 : decode cL_apart 144 = .ok (.if_icmp .ne 33, 3) := by decide +kernel
theorem dL_apart_147 : decode cL_apart 147 = .ok (.aload_n 0, 1) := by decide +kernel
theorem dL_apart_148 : decode cL_apart 148 = .ok (.invokevirtual 40, 3) := by decide +kernel
theorem dL_apart_151 : decode cL_apart 151 = .ok (.aload_n 0, 1) := by decide +kernel
theorem dL_apart_152 : decode cL_apart 152 = .ok (.iconst 0, 1) := by decide +kernel
theorem dL_apart_153 : decode cL_apart 153 = .ok (.iconst 3, 1) := by decide +kernel
theorem dL_apart_154 : decode cL_apart 154 = .ok (.invokevirtual 9, 3) := by decide +kernel
theorem dL_apart_157 : decode cL_apart 157 = .ok (.invokestatic 15, 3) := by decide +kernel
theorem dL_apart_160 : decode cL_apart 160 = .ok (.aload_n 0, 1) := by decide +kernel
theorem dL_apart_161 : decode cL_apart 161 = .ok (.iconst 1, 1) := by decide +kernel
theorem dL_apart_162 : decode cL_apart 162 = .ok (.iconst 3, 1) := by decide +kernel
theorem dL_apart_163 : decode cL_apart 163 = .ok (.invokevirtual 9, 3) := by decide +kernel
theorem dL_apart_166 : decode cL_apart 166 = .ok (.invokestatic 15, 3) := by decide +kernel
theorem dL_apart_169 : decode cL_apart 169 = .ok (.imul, 1) := by decide +kernel
theorem dL_apart_170 : decode cL_apart 170 = .ok (.if_icmp .gt 7, 3) := by decide +kernel
theorem dL_apart_173 : decode cL_apart 173 = .ok (.iconst 1, 1) := by decide +kernel
theorem dL_apart_174 : decode cL_apart 174 = .ok (.goto 4, 3) := by decide +kernel
theorem dL_apart_177 : decode cL_apart 177 = .ok (.iconst 0, 1) := by decide +kernel
theorem dL_apart_178 : decode cL_apart 178 = .ok (.ireturn, 1) := by decide +kernel
theorem dL_runs_0 : decode cL_runs 0 = .ok (.iload_n 1, 1) := by decide +kernel
theorem dL_runs_1 : decode cL_runs 1 = .ok (.iconst 2, 1) := by decide +kernel
theorem dL_runs_2 : decode cL_runs 2 = .ok (.irem, 1) := by decide +kernel
theorem dL_runs_3 : decode cL_runs 3 = .ok (.istore_n 2, 1) := by decide +kernel
theorem dL_runs_4 : decode cL_runs 4 = .ok (.iload_n 1, 1) := by decide +kernel
theorem dL_runs_5 : decode cL_runs 5 = .ok (.iconst 2, 1) := by decide +kernel
theorem dL_runs_6 : decode cL_runs 6 = .ok (.idiv, 1) := by decide +kernel
theorem dL_runs_7 : decode cL_runs 7 = .ok (.bipush 16, 2) := by decide +kernel
theorem dL_runs_9 : decode cL_runs 9 = .ok (.irem, 1) := by decide +kernel
theorem dL_runs_10 : decode cL_runs 10 = .ok (.istore_n 3, 1) := by decide +kernel
theorem dL_runs_11 : decode cL_runs 11 = .ok (.iload_n 1, 1) := by decide +kernel
theorem dL_runs_12 : decode cL_runs 12 = .ok (.bipush 32, 2) := by decide +kernel
theorem dL_runs_14 : decode cL_runs 14 = .ok (.idiv, 1) := by decide +kernel
theorem dL_runs_15 : decode cL_runs 15 = .ok (.istore 4, 2) := by decide +kernel
theorem dL_runs_17 : decode cL_runs 17 = .ok (.aload_n 0, 1) := by decide +kernel
theorem dL_runs_18 : decode cL_runs 18 = .ok (.iload_n 2, 1) := by decide +kernel
theorem dL_runs_19 : decode cL_runs 19 = .ok (.iload 4, 2) := by decide +kernel
theorem dL_runs_21 : decode cL_runs 21 = .ok (.iload_n 3, 1) := by decide +kernel
theorem dL_runs_22 : decode cL_runs 22 = .ok (.iconst 0, 1) := by decide +kernel
theorem dL_runs_23 : decode cL_runs 23 = .ok (.invokevirtual 36, 3) := by decide +kernel
theorem dL_runs_26 : decode cL_runs 26 = .ok (.istore 5, 2) := by decide +kernel
theorem dL_runs_28 : decode cL_runs 28 = .ok (.aload_n 0, 1) := by decide +kernel
theorem dL_runs_29 : decode cL_runs 29 = .ok (.iload_n 2, 1) := by decide +kernel
theorem dL_runs_30 : decode cL_runs 30 = .ok (.iload 4, 2) := by decide +kernel
theorem dL_runs_32 : decode cL_runs 32 = .ok (.iload_n 3, 1) := by decide +kernel
theorem dL_runs_33 : decode cL_runs 33 = .ok (.iconst 1, 1) := by decide +kernel
theorem dL_runs_34 : decode cL_runs 34 = .ok (.invokevirtual 36, 3) := by decide +kernel
theorem dL_runs_37 : decode cL_runs 37 = .ok (.istore 6, 2) := by decide +kernel
theorem dL_runs_39 : decode cL_runs 39 = .ok (.iload 4, 2) := by decide +kernel
theorem dL_runs_41 : decode cL_runs 41 = .ok (.iconst 2, 1) := by decide +kernel
theorem dL_runs_42 : decode cL_runs 42 = .ok (.iload_n 3, 1) := by decide +kernel
theorem dL_runs_43 : decode cL_runs 43 = .ok (.imul, 1) := by decide +kernel
theorem dL_runs_44 : decode cL_runs 44 = .ok (.ishr, 1) := by decide +kernel
theorem dL_runs_45 : decode cL_runs 45 = .ok (.iconst 3, 1) := by decide +kernel
theorem dL_runs_46 : decode cL_runs 46 = .ok (.iand, 1) := by decide +kernel
theorem dL_runs_47 : decode cL_runs 47 = .ok (.istore 7, 2) := by decide +kernel
theorem dL_runs_49 : decode cL_runs 49 = .ok (.aload_n 0, 1) := by decide +kernel
theorem dL_runs_50 : decode cL_runs 50 = .ok (.iload_n 2, 1) := by decide +kernel
theorem dL_runs_51 : decode cL_runs 51 = .ok (.iload 5, 2) := by decide +kernel
theorem dL_runs_53 : decode cL_runs 53 = .ok (.iload 7, 2) := by decide +kernel
theorem dL_runs_55 : decode cL_runs 55 = .ok (.aload_n 0, 1) := by decide +kernel
theorem dL_runs_56 : decode cL_runs 56 = .ok (.iload_n 2, 1) := by decide +kernel
theorem dL_runs_57 : decode cL_runs 57 = .ok (.iconst 1, 1) := by decide +kernel
theorem dL_runs_58 : decode cL_runs 58 = .ok (.invokevirtual 9, 3) := by decide +kernel
theorem dL_runs_61 : decode cL_runs 61 = .ok (.invokevirtual 43, 3) := by decide +kernel
theorem dL_runs_64 : decode cL_runs 64 = .ok (.istore 8, 2) := by decide +kernel
theorem dL_runs_66 : decode cL_runs 66 = .ok (.aload_n 0, 1) := by decide +kernel
theorem dL_runs_67 : decode cL_runs 67 = .ok (.iload_n 2, 1) := by decide +kernel
theorem dL_runs_68 : decode cL_runs 68 = .ok (.iload 4, 2) := by decide +kernel
theorem dL_runs_70 : decode cL_runs 70 = .ok (.iload_n 3, 1) := by decide +kernel
theorem dL_runs_71 : decode cL_runs 71 = .ok (.iconst 1, 1) := by decide +kernel
theorem dL_runs_72 : decode cL_runs 72 = .ok (.iadd, 1) := by decide +kernel
theorem dL_runs_73 : decode cL_runs 73 = .ok (.iconst 0, 1) := by decide +kernel
theorem dL_runs_74 : decode cL_runs 74 = .ok (.invokevirtual 36, 3) := by decide +kernel
theorem dL_runs_77 : decode cL_runs 77 = .ok (.aload_n 0, 1) := by decide +kernel
theorem dL_runs_78 : decode cL_runs 78 = .ok (.iload_n 2, 1) := by decide +kernel
theorem dL_runs_79 : decode cL_runs 79 = .ok (.iload 5, 2) := by decide +kernel
theorem dL_runs_81 : decode cL_runs 81 = .ok (.iload 7, 2) := by decide +kernel
theorem dL_runs_83 : decode cL_runs 83 = .ok (.invokevirtual 21, 3) := by decide +kernel
theorem dL_runs_86 : decode cL_runs 86 = .ok (.if_icmp .ne 45, 3) := by decide +kernel
theorem dL_runs_89 : decode cL_runs 89 = .ok (.aload_n 0, 1) := by decide +kernel
theorem dL_runs_90 : decode cL_runs 90 = .ok (.iload_n 2, 1) := by decide +kernel
theorem dL_runs_91 : decode cL_runs 91 = .ok (.iload 4, 2) := by decide +kernel
theorem dL_runs_93 : decode cL_runs 93 = .ok (.iload_n 3, 1) := by decide +kernel
theorem dL_runs_94 : decode cL_runs 94 = .ok (.iconst 1, 1) := by decide +kernel
theorem dL_runs_95 : decode cL_runs 95 = .ok (.iadd, 1) := by decide +kernel
theorem dL_runs_96 : decode cL_runs 96 = .ok (.iconst 1, 1) := by decide +kernel
theorem dL_runs_97 : decode cL_runs 97 = .ok (.invokevirtual 36, 3) := by decide +kernel
theorem dL_runs_100 : decode cL_runs 100 = .ok (.iload 6, 2) := by decide +kernel
theorem dL_runs_102 : decode cL_runs 102 = .ok (.iload 8, 2) := by decide +kernel
theorem dL_runs_104 : decode cL_runs 104 = .ok (.iconst 1, 1) := by decide +kernel
theorem dL_runs_105 : decode cL_runs 105 = .ok (.iload_n 3, 1) := by decide +kernel
theorem dL_runs_106 : decode cL_runs 106 = .ok (.ishl, 1) := by decide +kernel
theorem dL_runs_107 : decode cL_runs 107 = .ok (.imul, 1) := by decide +kernel
theorem dL_runs_108 : decode cL_runs 108 = .ok (.iadd, 1) := by decide +kernel
theorem dL_runs_109 : decode cL_runs 109 = .ok (.if_icmp .ne 22, 3) := by decide +kernel
theorem dL_runs_112 : decode cL_runs 112 = .ok (.aload_n 0, 1) := by decide +kernel
theorem dL_runs_113 : decode cL_runs 113 = .ok (.iload_n 2, 1) := by decide +kernel
theorem dL_runs_114 : decode cL_runs 114 = .ok (.iconst 3, 1) := by decide +kernel
theorem dL_runs_115 : decode cL_runs 115 = .ok (.invokevirtual 9, 3) := by decide +kernel
theorem dL_runs_118 : decode cL_runs 118 = .ok (.iload 5, 2) := by decide +kernel
theorem dL_runs_120 : decode cL_runs 120 = .ok (.ishr, 1) := by decide +kernel
theorem dL_runs_121 : decode cL_runs 121 = .ok (.iconst 1, 1) := by decide +kernel
theorem dL_runs_122 : decode cL_runs 122 = .ok (.iand, 1) := by decide +kernel
theorem dL_runs_123 : decode cL_runs 123 = .ok (.iconst 1, 1) := by decide +kernel
theorem dL_runs_124 : decode cL_runs 124 = .ok (.if_icmp .ne 7, 3) := by decide +kernel
theorem dL_runs_127 : decode cL_runs 127 = .ok (.iconst 1, 1) := by decide +kernel
theorem dL_runs_128 : decode cL_runs 128 = .ok (.goto 4, 3) := by decide +kernel
theorem dL_runs_131 : decode cL_runs 131 = .ok (.iconst 0, 1) := by decide +kernel
theorem dL_runs_132 : decode cL_runs 132 = .ok (.ireturn, 1) := by decide +kernel
theorem dL_acts_0 : decode cL_acts 0 = .ok (.iload_n 1, 1) := by decide +kernel
theorem dL_acts_1 : decode cL_acts 1 = .ok (.bipush 8, 2) := by decide +kernel
theorem dL_acts_3 : decode cL_acts 3 = .ok (.idiv, 1) := by decide +kernel
theorem dL_acts_4 : decode cL_acts 4 = .ok (.istore_n 2, 1) := by decide +kernel
theorem dL_acts_5 : decode cL_acts 5 = .ok (.iload_n 2, 1) := by decide +kernel
theorem dL_acts_6 : decode cL_acts 6 = .ok (.iconst 2, 1) := by decide +kernel
theorem dL_acts_7 : decode cL_acts 7 = .ok (.irem, 1) := by decide +kernel
theorem dL_acts_8 : decode cL_acts 8 = .ok (.istore_n 3, 1) := by decide +kernel
theorem dL_acts_9 : decode cL_acts 9 = .ok (.aload_n 0, 1) := by decide +kernel
theorem dL_acts_10 : decode cL_acts 10 = .ok (.iload_n 3, 1) := by decide +kernel
theorem dL_acts_11 : decode cL_acts 11 = .ok (.iconst 0, 1) := by decide +kernel
theorem dL_acts_12 : decode cL_acts 12 = .ok (.invokevirtual 9, 3) := by decide +kernel
theorem dL_acts_15 : decode cL_acts 15 = .ok (.istore 4, 2) := by decide +kernel
theorem dL_acts_17 : decode cL_acts 17 = .ok (.iload_n 1, 1) := by decide +kernel
theorem dL_acts_18 : decode cL_acts 18 = .ok (.bipush 8, 2) := by decide +kernel
theorem dL_acts_20 : decode cL_acts 20 = .ok (.irem, 1) := by decide +kernel
theorem dL_acts_21 : decode cL_acts 21 = .ok (.tableswitch 424 0 6 #[43, 43, 154, 224, 259, 348, 419], 43) := by decide +kernel
theorem dL_acts_64 : decode cL_acts 64 = .ok (.iload_n 2, 1) := by decide +kernel
theorem dL_acts_65 : decode cL_acts 65 = .ok (.iconst 2, 1) := by decide +kernel
theorem dL_acts_66 : decode cL_acts 66 = .ok (.idiv, 1) := by decide +kernel
theorem dL_acts_67 : decode cL_acts 67 = .ok (.iload 4, 2) := by decide +kernel
theorem dL_acts_69 : decode cL_acts 69 = .ok (.iconst 1, 1) := by decide +kernel
theorem dL_acts_70 : decode cL_acts 70 = .ok (.iadd, 1) := by decide +kernel
theorem dL_acts_71 : decode cL_acts 71 = .ok (.irem, 1) := by decide +kernel
theorem dL_acts_72 : decode cL_acts 72 = .ok (.istore 5, 2) := by decide +kernel
theorem dL_acts_74 : decode cL_acts 74 = .ok (.aload_n 0, 1) := by decide +kernel
theorem dL_acts_75 : decode cL_acts 75 = .ok (.iload_n 3, 1) := by decide +kernel
theorem dL_acts_76 : decode cL_acts 76 = .ok (.iload 5, 2) := by decide +kernel
theorem dL_acts_78 : decode cL_acts 78 = .ok (.iload_n 2, 1) := by decide +kernel
theorem dL_acts_79 : decode cL_acts 79 = .ok (.bipush 32, 2) := by decide +kernel
theorem dL_acts_81 : decode cL_acts 81 = .ok (.idiv, 1) := by decide +kernel
theorem dL_acts_82 : decode cL_acts 82 = .ok (.bipush 6, 2) := by decide +kernel
theorem dL_acts_84 : decode cL_acts 84 = .ok (.irem, 1) := by decide +kernel
theorem dL_acts_85 : decode cL_acts 85 = .ok (.iload_n 2, 1) := by decide +kernel
theorem dL_acts_86 : decode cL_acts 86 = .ok (.sipush 256, 3) := by decide +kernel
theorem dL_acts_89 : decode cL_acts 89 = .ok (.idiv, 1) := by decide +kernel
theorem dL_acts_90 : decode cL_acts 90 = .ok (.bipush 6, 2) := by decide +kernel
theorem dL_acts_92 : decode cL_acts 92 = .ok (.iload 5, 2) := by decide +kernel
theorem dL_acts_94 : decode cL_acts 94 = .ok (.iadd, 1) := by decide +kernel
theorem dL_acts_95 : decode cL_acts 95 = .ok (.irem, 1) := by decide +kernel
theorem dL_acts_96 : decode cL_acts 96 = .ok (.iload_n 2, 1) := by decide +kernel
theorem dL_acts_97 : decode cL_acts 97 = .ok (.sipush 4096, 3) := by decide +kernel
theorem dL_acts_100 : decode cL_acts 100 = .ok (.idiv, 1) := by decide +kernel
theorem dL_acts_101 : decode cL_acts 101 = .ok (.bipush 6, 2) := by decide +kernel
theorem dL_acts_103 : decode cL_acts 103 = .ok (.iload 5, 2) := by decide +kernel
theorem dL_acts_105 : decode cL_acts 105 = .ok (.iadd, 1) := by decide +kernel
theorem dL_acts_106 : decode cL_acts 106 = .ok (.irem, 1) := by decide +kernel
theorem dL_acts_107 : decode cL_acts 107 = .ok (.invokevirtual 46, 3) := by decide +kernel
theorem dL_acts_110 : decode cL_acts 110 = .ok (.istore 6, 2) := by decide +kernel
theorem dL_acts_112 : decode cL_acts 112 = .ok (.iload 4, 2) := by decide +kernel
theorem dL_acts_114 : decode cL_acts 114 = .ok (.bipush 8, 2) := by decide +kernel
theorem dL_acts_116 : decode cL_acts 116 = .ok (.if_icmp .ne 32, 3) := by decide +kernel
theorem dL_acts_119 : decode cL_acts 119 = .ok (.iload 5, 2) := by decide +kernel
theorem dL_acts_121 : decode cL_acts 121 = .ok (.bipush 8, 2) := by decide +kernel
theorem dL_acts_123 : decode cL_acts 123 = .ok (.if_icmp .ne 25, 3) := by decide +kernel
theorem dL_acts_126 : decode cL_acts 126 = .ok (.iload 6, 2) := by decide +kernel
theorem dL_acts_128 : decode cL_acts 128 = .ok (.ldc 50, 2) := by decide +kernel
theorem dL_acts_130 : decode cL_acts 130 = .ok (.if_icmp .eq 10, 3) := by decide +kernel
theorem dL_acts_133 : decode cL_acts 133 = .ok (.iload 6, 2) := by decide +kernel
theorem dL_acts_135 : decode cL_acts 135 = .ok (.ldc 51, 2) := by decide +kernel
theorem dL_acts_137 : decode cL_acts 137 = .ok (.if_icmp .ne 7, 3) := by decide +kernel
theorem dL_acts_140 : decode cL_acts 140 = .ok (.iconst 1, 1) := by decide +kernel
theorem dL_acts_141 : decode cL_acts 141 = .ok (.goto 33, 3) := by decide +kernel
theorem dL_acts_144 : decode cL_acts 144 = .ok (.iconst 0, 1) := by decide +kernel
theorem dL_acts_145 : decode cL_acts 145 = .ok (.goto 29, 3) := by decide +kernel
theorem dL_acts_148 : decode cL_acts 148 = .ok (.iload 6, 2) := by decide +kernel
theorem dL_acts_150 : decode cL_acts 150 = .ok (.iload 5, 2) := by decide +kernel
theorem dL_acts_152 : decode cL_acts 152 = .ok (.iload 4, 2) := by decide +kernel
theorem dL_acts_154 : decode cL_acts 154 = .ok (.if_icmp .ne 10, 3) := by decide +kernel
theorem dL_acts_157 : decode cL_acts 157 = .ok (.iload 4, 2) := by decide +kernel
theorem dL_acts_159 : decode cL_acts 159 = .ok (.iconst 1, 1) := by decide +kernel
theorem dL_acts_160 : decode cL_acts 160 = .ok (.iadd, 1) := by decide +kernel
theorem dL_acts_161 : decode cL_acts 161 = .ok (.goto 5, 3) := by decide +kernel
theorem dL_acts_164 : decode cL_acts 164 = .ok (.iload 4, 2) := by decide +kernel
theorem dL_acts_166 : decode cL_acts 166 = .ok (.if_icmp .ne 7, 3) := by decide +kernel
theorem dL_acts_169 : decode cL_acts 169 = .ok (.iconst 1, 1) := by decide +kernel
theorem dL_acts_170 : decode cL_acts 170 = .ok (.goto 4, 3) := by decide +kernel
theorem dL_acts_173 : decode cL_acts 173 = .ok (.iconst 0, 1) := by decide +kernel
theorem dL_acts_174 : decode cL_acts 174 = .ok (.ireturn, 1) := by decide +kernel
theorem dL_acts_175 : decode cL_acts 175 = .ok (.aload_n 0, 1) := by decide +kernel
theorem dL_acts_176 : decode cL_acts 176 = .ok (.iload_n 3, 1) := by decide +kernel
theorem dL_acts_177 : decode cL_acts 177 = .ok (.iconst 2, 1) := by decide +kernel
theorem dL_acts_178 : decode cL_acts 178 = .ok (.invokevirtual 9, 3) := by decide +kernel
theorem dL_acts_181 : decode cL_acts 181 = .ok (.istore 7, 2) := by decide +kernel
theorem dL_acts_183 : decode cL_acts 183 = .ok (.iload_n 2, 1) := by decide +kernel
theorem dL_acts_184 : decode cL_acts 184 = .ok (.iconst 2, 1) := by decide +kernel
theorem dL_acts_185 : decode cL_acts 185 = .ok (.idiv, 1) := by decide +kernel
theorem dL_acts_186 : decode cL_acts 186 = .ok (.iconst 4, 1) := by decide +kernel
theorem dL_acts_187 : decode cL_acts 187 = .ok (.irem, 1) := by decide +kernel
theorem dL_acts_188 : decode cL_acts 188 = .ok (.istore 8, 2) := by decide +kernel
theorem dL_acts_190 : decode cL_acts 190 = .ok (.aload_n 0, 1) := by decide +kernel
theorem dL_acts_191 : decode cL_acts 191 = .ok (.iload_n 3, 1) := by decide +kernel
theorem dL_acts_192 : decode cL_acts 192 = .ok (.iload 8, 2) := by decide +kernel
theorem dL_acts_194 : decode cL_acts 194 = .ok (.iload_n 2, 1) := by decide +kernel
theorem dL_acts_195 : decode cL_acts 195 = .ok (.bipush 8, 2) := by decide +kernel
theorem dL_acts_197 : decode cL_acts 197 = .ok (.idiv, 1) := by decide +kernel
theorem dL_acts_198 : decode cL_acts 198 = .ok (.bipush 16, 2) := by decide +kernel
theorem dL_acts_200 : decode cL_acts 200 = .ok (.irem, 1) := by decide +kernel
theorem dL_acts_201 : decode cL_acts 201 = .ok (.iload_n 2, 1) := by decide +kernel
theorem dL_acts_202 : decode cL_acts 202 = .ok (.sipush 128, 3) := by decide +kernel
theorem dL_acts_205 : decode cL_acts 205 = .ok (.idiv, 1) := by decide +kernel
theorem dL_acts_206 : decode cL_acts 206 = .ok (.iconst 2, 1) := by decide +kernel
theorem dL_acts_207 : decode cL_acts 207 = .ok (.irem, 1) := by decide +kernel
theorem dL_acts_208 : decode cL_acts 208 = .ok (.invokevirtual 52, 3) := by decide +kernel
theorem dL_acts_211 : decode cL_acts 211 = .ok (.istore 9, 2) := by decide +kernel
theorem dL_acts_213 : decode cL_acts 213 = .ok (.iload 9, 2) := by decide +kernel
theorem dL_acts_215 : decode cL_acts 215 = .ok (.ifCond .lt 28, 3) := by decide +kernel
theorem dL_acts_218 : decode cL_acts 218 = .ok (.iload 9, 2) := by decide +kernel
theorem dL_acts_220 : decode cL_acts 220 = .ok (.bipush 31, 2) := by decide +kernel
theorem dL_acts_222 : decode cL_acts 222 = .ok (.if_icmp .gt 21, 3) := by decide +kernel
theorem dL_acts_225 : decode cL_acts 225 = .ok (.iload 9, 2) := by decide +kernel
theorem dL_acts_227 : decode cL_acts 227 = .ok (.iconst 2, 1) := by decide +kernel
theorem dL_acts_228 : decode cL_acts 228 = .ok (.irem, 1) := by decide +kernel
theorem dL_acts_229 : decode cL_acts 229 = .ok (.iload 7, 2) := by decide +kernel
theorem dL_acts_231 : decode cL_acts 231 = .ok (.iload 8, 2) := by decide +kernel
theorem dL_acts_233 : decode cL_acts 233 = .ok (.ishr, 1) := by decide +kernel
theorem dL_acts_234 : decode cL_acts 234 = .ok (.iconst 1, 1) := by decide +kernel
theorem dL_acts_235 : decode cL_acts 235 = .ok (.iand, 1) := by decide +kernel
theorem dL_acts_236 : decode cL_acts 236 = .ok (.if_icmp .ne 7, 3) := by decide +kernel
theorem dL_acts_239 : decode cL_acts 239 = .ok (.iconst 1, 1) := by decide +kernel
theorem dL_acts_240 : decode cL_acts 240 = .ok (.goto 4, 3) := by decide +kernel
theorem dL_acts_243 : decode cL_acts 243 = .ok (.iconst 0, 1) := by decide +kernel
theorem dL_acts_244 : decode cL_acts 244 = .ok (.ireturn, 1) := by decide +kernel
theorem dL_acts_245 : decode cL_acts 245 = .ok (.iload_n 2, 1) := by decide +kernel
theorem dL_acts_246 : decode cL_acts 246 = .ok (.iconst 2, 1) := by decide +kernel
theorem dL_acts_247 : decode cL_acts 247 = .ok (.idiv, 1) := by decide +kernel
theorem dL_acts_248 : decode cL_acts 248 = .ok (.bipush 16, 2) := by decide +kernel
theorem dL_acts_250 : decode cL_acts 250 = .ok (.irem, 1) := by decide +kernel
theorem dL_acts_251 : decode cL_acts 251 = .ok (.istore 10, 2) := by decide +kernel
theorem dL_acts_253 : decode cL_acts 253 = .ok (.aload_n 0, 1) := by decide +kernel
theorem dL_acts_254 : decode cL_acts 254 = .ok (.iload_n 3, 1) := by decide +kernel
theorem dL_acts_255 : decode cL_acts 255 = .ok (.iload 10, 2) := by decide +kernel
theorem dL_acts_257 : decode cL_acts 257 = .ok (.invokevirtual 55, 3) := by decide +kernel
theorem dL_acts_260 : decode cL_acts 260 = .ok (.ifCond .lt 18, 3) := by decide +kernel
theorem dL_acts_263 : decode cL_acts 263 = .ok (.aload_n 0, 1) := by decide +kernel
theorem dL_acts_264 : decode cL_acts 264 = .ok (.iload_n 3, 1) := by decide +kernel
theorem dL_acts_265 : decode cL_acts 265 = .ok (.iconst 1, 1) := by decide +kernel
theorem dL_acts_266 : decode cL_acts 266 = .ok (.invokevirtual 9, 3) := by decide +kernel
theorem dL_acts_269 : decode cL_acts 269 = .ok (.iload 10, 2) := by decide +kernel
theorem dL_acts_271 : decode cL_acts 271 = .ok (.if_icmp .ne 7, 3) := by decide +kernel
theorem dL_acts_274 : decode cL_acts 274 = .ok (.iconst 1, 1) := by decide +kernel
theorem dL_acts_275 : decode cL_acts 275 = .ok (.goto 4, 3) := by decide +kernel
theorem dL_acts_278 : decode cL_acts 278 = .ok (.iconst 0, 1) := by decide +kernel
theorem dL_acts_279 : decode cL_acts 279 = .ok (.ireturn, 1) := by decide +kernel
theorem dL_acts_280 : decode cL_acts 280 = .ok (.aload_n 0, 1) := by decide +kernel
theorem dL_acts_281 : decode cL_acts 281 = .ok (.iconst 1, 1) := by decide +kernel
theorem dL_acts_282 : decode cL_acts 282 = .ok (.invokevirtual 29, 3) := by decide +kernel
theorem dL_acts_285 : decode cL_acts 285 = .ok (.istore 11, 2) := by decide +kernel
theorem dL_acts_287 : decode cL_acts 287 = .ok (.iload_n 2, 1) := by decide +kernel
theorem dL_acts_288 : decode cL_acts 288 = .ok (.iconst 3, 1) := by decide +kernel
theorem dL_acts_289 : decode cL_acts 289 = .ok (.irem, 1) := by decide +kernel
theorem dL_acts_290 : decode cL_acts 290 = .ok (.ifCond .le 13, 3) := by decide +kernel
theorem dL_acts_293 : decode cL_acts 293 = .ok (.aload_n 0, 1) := by decide +kernel
theorem dL_acts_294 : decode cL_acts 294 = .ok (.iload_n 2, 1) := by decide +kernel
theorem dL_acts_295 : decode cL_acts 295 = .ok (.iconst 3, 1) := by decide +kernel
theorem dL_acts_296 : decode cL_acts 296 = .ok (.idiv, 1) := by decide +kernel
theorem dL_acts_297 : decode cL_acts 297 = .ok (.invokestatic 58, 3) := by decide +kernel
theorem dL_acts_300 : decode cL_acts 300 = .ok (.goto 68, 3) := by decide +kernel
theorem dL_acts_303 : decode cL_acts 303 = .ok (.aload_n 0, 1) := by decide +kernel
theorem dL_acts_304 : decode cL_acts 304 = .ok (.iload_n 3, 1) := by decide +kernel
theorem dL_acts_305 : decode cL_acts 305 = .ok (.invokevirtual 62, 3) := by decide +kernel
theorem dL_acts_308 : decode cL_acts 308 = .ok (.iload 4, 2) := by decide +kernel
theorem dL_acts_310 : decode cL_acts 310 = .ok (.if_icmp .ne 57, 3) := by decide +kernel
theorem dL_acts_313 : decode cL_acts 313 = .ok (.aload_n 0, 1) := by decide +kernel
theorem dL_acts_314 : decode cL_acts 314 = .ok (.iconst 1, 1) := by decide +kernel
theorem dL_acts_315 : decode cL_acts 315 = .ok (.invokevirtual 29, 3) := by decide +kernel
theorem dL_acts_318 : decode cL_acts 318 = .ok (.iconst 1, 1) := by decide +kernel
theorem dL_acts_319 : decode cL_acts 319 = .ok (.if_icmp .ne 48, 3) := by decide +kernel
theorem dL_acts_322 : decode cL_acts 322 = .ok (.aload_n 0, 1) := by decide +kernel
theorem dL_acts_323 : decode cL_acts 323 = .ok (.invokevirtual 32, 3) := by decide +kernel
theorem dL_acts_326 : decode cL_acts 326 = .ok (.ifCond .ne 41, 3) := by decide +kernel
theorem dL_acts_329 : decode cL_acts 329 = .ok (.aload_n 0, 1) := by decide +kernel
theorem dL_acts_330 : decode cL_acts 330 = .ok (.iconst 0, 1) := by decide +kernel
theorem dL_acts_331 : decode cL_acts 331 = .ok (.invokevirtual 65, 3) := by decide +kernel
theorem dL_acts_334 : decode cL_acts 334 = .ok (.iconst 1, 1) := by decide +kernel
theorem dL_acts_335 : decode cL_acts 335 = .ok (.iand, 1) := by decide +kernel
theorem dL_acts_336 : decode cL_acts 336 = .ok (.iconst 1, 1) := by decide +kernel
theorem dL_acts_337 : decode cL_acts 337 = .ok (.if_icmp .ne 30, 3) := by decide +kernel
theorem dL_acts_340 : decode cL_acts 340 = .ok (.iload_n 2, 1) := by decide +kernel
theorem dL_acts_341 : decode cL_acts 341 = .ok (.iconst 2, 1) := by decide +kernel
theorem dL_acts_342 : decode cL_acts 342 = .ok (.irem, 1) := by decide +kernel
theorem dL_acts_343 : decode cL_acts 343 = .ok (.ifCond .eq 20, 3) := by decide +kernel
theorem dL_acts_346 : decode cL_acts 346 = .ok (.aload_n 0, 1) := by decide +kernel
theorem dL_acts_347 : decode cL_acts 347 = .ok (.invokevirtual 68, 3) := by decide +kernel
theorem dL_acts_350 : decode cL_acts 350 = .ok (.ifCond .lt 17, 3) := by decide +kernel
theorem dL_acts_353 : decode cL_acts 353 = .ok (.aload_n 0, 1) := by decide +kernel
theorem dL_acts_354 : decode cL_acts 354 = .ok (.iconst 1, 1) := by decide +kernel
theorem dL_acts_355 : decode cL_acts 355 = .ok (.invokevirtual 29, 3) := by decide +kernel
theorem dL_acts_358 : decode cL_acts 358 = .ok (.iload 11, 2) := by decide +kernel
theorem dL_acts_360 : decode cL_acts 360 = .ok (.if_icmp .ne 7, 3) := by decide +kernel
theorem dL_acts_363 : decode cL_acts 363 = .ok (.iconst 1, 1) := by decide +kernel
theorem dL_acts_364 : decode cL_acts 364 = .ok (.goto 4, 3) := by decide +kernel
theorem dL_acts_367 : decode cL_acts 367 = .ok (.iconst 0, 1) := by decide +kernel
theorem dL_acts_368 : decode cL_acts 368 = .ok (.ireturn, 1) := by decide +kernel
theorem dL_acts_369 : decode cL_acts 369 = .ok (.iload_n 2, 1) := by decide +kernel
theorem dL_acts_370 : decode cL_acts 370 = .ok (.iconst 2, 1) := by decide +kernel
theorem dL_acts_371 : decode cL_acts 371 = .ok (.idiv, 1) := by decide +kernel
theorem dL_acts_372 : decode cL_acts 372 = .ok (.bipush 8, 2) := by decide +kernel
theorem dL_acts_374 : decode cL_acts 374 = .ok (.irem, 1) := by decide +kernel
theorem dL_acts_375 : decode cL_acts 375 = .ok (.istore 12, 2) := by decide +kernel
theorem dL_acts_377 : decode cL_acts 377 = .ok (.aload_n 0, 1) := by decide +kernel
theorem dL_acts_378 : decode cL_acts 378 = .ok (.iload 12, 2) := by decide +kernel
theorem dL_acts_380 : decode cL_acts 380 = .ok (.invokevirtual 71, 3) := by decide +kernel
theorem dL_acts_383 : decode cL_acts 383 = .ok (.istore 13, 2) := by decide +kernel
theorem dL_acts_385 : decode cL_acts 385 = .ok (.iload 12, 2) := by decide +kernel
theorem dL_acts_387 : decode cL_acts 387 = .ok (.aload_n 0, 1) := by decide +kernel
theorem dL_acts_388 : decode cL_acts 388 = .ok (.iconst 0, 1) := by decide +kernel
theorem dL_acts_389 : decode cL_acts 389 = .ok (.iconst 0, 1) := by decide +kernel
theorem dL_acts_390 : decode cL_acts 390 = .ok (.invokevirtual 9, 3) := by decide +kernel
theorem dL_acts_393 : decode cL_acts 393 = .ok (.if_icmp .lt 18, 3) := by decide +kernel
theorem dL_acts_396 : decode cL_acts 396 = .ok (.iload 13, 2) := by decide +kernel
theorem dL_acts_398 : decode cL_acts 398 = .ok (.ldc 28, 2) := by decide +kernel
theorem dL_acts_400 : decode cL_acts 400 = .ok (.if_icmp .ne 7, 3) := by decide +kernel
theorem dL_acts_403 : decode cL_acts 403 = .ok (.iconst 1, 1) := by decide +kernel
theorem dL_acts_404 : decode cL_acts 404 = .ok (.goto 35, 3) := by decide +kernel
theorem dL_acts_407 : decode cL_acts 407 = .ok (.iconst 0, 1) := by decide +kernel
theorem dL_acts_408 : decode cL_acts 408 = .ok (.goto 31, 3) := by decide +kernel
theorem dL_acts_411 : decode cL_acts 411 = .ok (.iload 13, 2) := by decide +kernel
theorem dL_acts_413 : decode cL_acts 413 = .ok (.aload_n 0, 1) := by decide +kernel
theorem dL_acts_414 : decode cL_acts 414 = .ok (.iconst 0, 1) := by decide +kernel
theorem dL_acts_415 : decode cL_acts 415 = .ok (.bipush 10, 2) := by decide +kernel
theorem dL_acts_417 : decode cL_acts 417 = .ok (.iload 12, 2) := by decide +kernel
theorem dL_acts_419 : decode cL_acts 419 = .ok (.iadd, 1) := by decide +kernel
theorem dL_acts_420 : decode cL_acts 420 = .ok (.invokevirtual 9, 3) := by decide +kernel
theorem dL_acts_423 : decode cL_acts 423 = .ok (.ishr, 1) := by decide +kernel
theorem dL_acts_424 : decode cL_acts 424 = .ok (.iconst 1, 1) := by decide +kernel
theorem dL_acts_425 : decode cL_acts 425 = .ok (.iand, 1) := by decide +kernel
theorem dL_acts_426 : decode cL_acts 426 = .ok (.aload_n 0, 1) := by decide +kernel
theorem dL_acts_427 : decode cL_acts 427 = .ok (.iconst 1, 1) := by decide +kernel
theorem dL_acts_428 : decode cL_acts 428 = .ok (.invokevirtual 29, 3) := by decide +kernel
theorem dL_acts_431 : decode cL_acts 431 = .ok (.if_icmp .ne 7, 3) := by decide +kernel
theorem dL_acts_434 : decode cL_acts 434 = .ok (.iconst 1, 1) := by decide +kernel
theorem dL_acts_435 : decode cL_acts 435 = .ok (.goto 4, 3) := by decide +kernel
theorem dL_acts_438 : decode cL_acts 438 = .ok (.iconst 0, 1) := by decide +kernel
theorem dL_acts_439 : decode cL_acts 439 = .ok (.ireturn, 1) := by decide +kernel
theorem dL_acts_440 : decode cL_acts 440 = .ok (.aload_n 0, 1) := by decide +kernel
theorem dL_acts_441 : decode cL_acts 441 = .ok (.invokestatic 74, 3) := by decide +kernel
theorem dL_acts_444 : decode cL_acts 444 = .ok (.ireturn, 1) := by decide +kernel
theorem dL_acts_445 : decode cL_acts 445 = .ok (.aload_n 0, 1) := by decide +kernel
theorem dL_acts_446 : decode cL_acts 446 = .ok (.iload_n 2, 1) := by decide +kernel
theorem dL_acts_447 : decode cL_acts 447 = .ok (.invokestatic 58, 3) := by decide +kernel
theorem dL_acts_450 : decode cL_acts 450 = .ok (.ifCond .eq 15, 3) := by decide +kernel
theorem dL_acts_453 : decode cL_acts 453 = .ok (.aload_n 0, 1) := by decide +kernel
theorem dL_acts_454 : decode cL_acts 454 = .ok (.iload_n 3, 1) := by decide +kernel
theorem dL_acts_455 : decode cL_acts 455 = .ok (.invokestatic 77, 3) := by decide +kernel
theorem dL_acts_458 : decode cL_acts 458 = .ok (.ifCond .eq 7, 3) := by decide +kernel
theorem dL_acts_461 : decode cL_acts 461 = .ok (.iconst 1, 1) := by decide +kernel
theorem dL_acts_462 : decode cL_acts 462 = .ok (.goto 4, 3) := by decide +kernel
theorem dL_acts_465 : decode cL_acts 465 = .ok (.iconst 0, 1) := by decide +kernel
theorem dL_acts_466 : decode cL_acts 466 = .ok (.ireturn, 1) := by decide +kernel
theorem dL_law_0 : decode cL_law 0 = .ok (.new 10, 3) := by decide +kernel
theorem dL_law_3 : decode cL_law 3 = .ok (.dup, 1) := by decide +kernel
theorem dL_law_4 : decode cL_law 4 = .ok (.invokespecial 80, 3) := by decide +kernel
theorem dL_law_7 : decode cL_law 7 = .ok (.astore_n 1, 1) := by decide +kernel
theorem dL_law_8 : decode cL_law 8 = .ok (.aload_n 1, 1) := by decide +kernel
theorem dL_law_9 : decode cL_law 9 = .ok (.iconst 0, 1) := by decide +kernel
theorem dL_law_10 : decode cL_law 10 = .ok (.invokestatic 77, 3) := by decide +kernel
theorem dL_law_13 : decode cL_law 13 = .ok (.ifCond .eq 14, 3) := by decide +kernel
theorem dL_law_16 : decode cL_law 16 = .ok (.aload_n 1, 1) := by decide +kernel
theorem dL_law_17 : decode cL_law 17 = .ok (.invokestatic 74, 3) := by decide +kernel
theorem dL_law_20 : decode cL_law 20 = .ok (.ifCond .eq 7, 3) := by decide +kernel
theorem dL_law_23 : decode cL_law 23 = .ok (.iconst 1, 1) := by decide +kernel
theorem dL_law_24 : decode cL_law 24 = .ok (.goto 4, 3) := by decide +kernel
theorem dL_law_27 : decode cL_law 27 = .ok (.iconst 0, 1) := by decide +kernel
theorem dL_law_28 : decode cL_law 28 = .ok (.istore_n 2, 1) := by decide +kernel
theorem dL_law_29 : decode cL_law 29 = .ok (.iconst 0, 1) := by decide +kernel
theorem dL_law_30 : decode cL_law 30 = .ok (.istore_n 3, 1) := by decide +kernel
theorem dL_law_31 : decode cL_law 31 = .ok (.iload_n 3, 1) := by decide +kernel
theorem dL_law_32 : decode cL_law 32 = .ok (.bipush 8, 2) := by decide +kernel
theorem dL_law_34 : decode cL_law 34 = .ok (.if_icmp .ge 72, 3) := by decide +kernel
theorem dL_law_37 : decode cL_law 37 = .ok (.iload_n 2, 1) := by decide +kernel
theorem dL_law_38 : decode cL_law 38 = .ok (.ifCond .eq 68, 3) := by decide +kernel
theorem dL_law_41 : decode cL_law 41 = .ok (.aload_n 0, 1) := by decide +kernel
theorem dL_law_42 : decode cL_law 42 = .ok (.iload_n 3, 1) := by decide +kernel
theorem dL_law_43 : decode cL_law 43 = .ok (.invokestatic 81, 3) := by decide +kernel
theorem dL_law_46 : decode cL_law 46 = .ok (.istore 4, 2) := by decide +kernel
theorem dL_law_48 : decode cL_law 48 = .ok (.aload_n 1, 1) := by decide +kernel
theorem dL_law_49 : decode cL_law 49 = .ok (.iload_n 3, 1) := by decide +kernel
theorem dL_law_50 : decode cL_law 50 = .ok (.iconst 4, 1) := by decide +kernel
theorem dL_law_51 : decode cL_law 51 = .ok (.irem, 1) := by decide +kernel
theorem dL_law_52 : decode cL_law 52 = .ok (.ifCond .ne 16, 3) := by decide +kernel
theorem dL_law_55 : decode cL_law 55 = .ok (.iload 4, 2) := by decide +kernel
theorem dL_law_57 : decode cL_law 57 = .ok (.bipush 8, 2) := by decide +kernel
theorem dL_law_59 : decode cL_law 59 = .ok (.idiv, 1) := by decide +kernel
theorem dL_law_60 : decode cL_law 60 = .ok (.bipush 8, 2) := by decide +kernel
theorem dL_law_62 : decode cL_law 62 = .ok (.imul, 1) := by decide +kernel
theorem dL_law_63 : decode cL_law 63 = .ok (.iconst 2, 1) := by decide +kernel
theorem dL_law_64 : decode cL_law 64 = .ok (.iadd, 1) := by decide +kernel
theorem dL_law_65 : decode cL_law 65 = .ok (.goto 31, 3) := by decide +kernel
theorem dL_law_68 : decode cL_law 68 = .ok (.iload_n 3, 1) := by decide +kernel
theorem dL_law_69 : decode cL_law 69 = .ok (.iconst 4, 1) := by decide +kernel
theorem dL_law_70 : decode cL_law 70 = .ok (.irem, 1) := by decide +kernel
theorem dL_law_71 : decode cL_law 71 = .ok (.iconst 1, 1) := by decide +kernel
theorem dL_law_72 : decode cL_law 72 = .ok (.if_icmp .ne 16, 3) := by decide +kernel
theorem dL_law_75 : decode cL_law 75 = .ok (.iload 4, 2) := by decide +kernel
theorem dL_law_77 : decode cL_law 77 = .ok (.bipush 8, 2) := by decide +kernel
theorem dL_law_79 : decode cL_law 79 = .ok (.idiv, 1) := by decide +kernel
theorem dL_law_80 : decode cL_law 80 = .ok (.bipush 8, 2) := by decide +kernel
theorem dL_law_82 : decode cL_law 82 = .ok (.imul, 1) := by decide +kernel
theorem dL_law_83 : decode cL_law 83 = .ok (.iconst 3, 1) := by decide +kernel
theorem dL_law_84 : decode cL_law 84 = .ok (.iadd, 1) := by decide +kernel
theorem dL_law_85 : decode cL_law 85 = .ok (.goto 11, 3) := by decide +kernel
theorem dL_law_88 : decode cL_law 88 = .ok (.iload 4, 2) := by decide +kernel
theorem dL_law_90 : decode cL_law 90 = .ok (.bipush 8, 2) := by decide +kernel
theorem dL_law_92 : decode cL_law 92 = .ok (.idiv, 1) := by decide +kernel
theorem dL_law_93 : decode cL_law 93 = .ok (.bipush 8, 2) := by decide +kernel
theorem dL_law_95 : decode cL_law 95 = .ok (.imul, 1) := by decide +kernel
theorem dL_law_96 : decode cL_law 96 = .ok (.invokestatic 85, 3) := by decide +kernel
theorem dL_law_99 : decode cL_law 99 = .ok (.istore_n 2, 1) := by decide +kernel
theorem dL_law_100 : decode cL_law 100 = .ok (.iinc 3 1, 3) := by decide +kernel
theorem dL_law_103 : decode cL_law 103 = .ok (.goto (-72), 3) := by decide +kernel
theorem dL_law_106 : decode cL_law 106 = .ok (.iconst 0, 1) := by decide +kernel
theorem dL_law_107 : decode cL_law 107 = .ok (.istore_n 3, 1) := by decide +kernel
theorem dL_law_108 : decode cL_law 108 = .ok (.iload_n 3, 1) := by decide +kernel
theorem dL_law_109 : decode cL_law 109 = .ok (.bipush 24, 2) := by decide +kernel
theorem dL_law_111 : decode cL_law 111 = .ok (.if_icmp .ge 26, 3) := by decide +kernel
theorem dL_law_114 : decode cL_law 114 = .ok (.iload_n 2, 1) := by decide +kernel
theorem dL_law_115 : decode cL_law 115 = .ok (.ifCond .eq 22, 3) := by decide +kernel
theorem dL_law_118 : decode cL_law 118 = .ok (.aload_n 1, 1) := by decide +kernel
theorem dL_law_119 : decode cL_law 119 = .ok (.aload_n 0, 1) := by decide +kernel
theorem dL_law_120 : decode cL_law 120 = .ok (.bipush 8, 2) := by decide +kernel
theorem dL_law_122 : decode cL_law 122 = .ok (.iload_n 3, 1) := by decide +kernel
theorem dL_law_123 : decode cL_law 123 = .ok (.iadd, 1) := by decide +kernel
theorem dL_law_124 : decode cL_law 124 = .ok (.invokestatic 81, 3) := by decide +kernel
theorem dL_law_127 : decode cL_law 127 = .ok (.invokestatic 85, 3) := by decide +kernel
theorem dL_law_130 : decode cL_law 130 = .ok (.istore_n 2, 1) := by decide +kernel
theorem dL_law_131 : decode cL_law 131 = .ok (.iinc 3 1, 3) := by decide +kernel
theorem dL_law_134 : decode cL_law 134 = .ok (.goto (-26), 3) := by decide +kernel
theorem dL_law_137 : decode cL_law 137 = .ok (.aload_n 1, 1) := by decide +kernel
theorem dL_law_138 : decode cL_law 138 = .ok (.iconst 0, 1) := by decide +kernel
theorem dL_law_139 : decode cL_law 139 = .ok (.invokevirtual 29, 3) := by decide +kernel
theorem dL_law_142 : decode cL_law 142 = .ok (.istore_n 3, 1) := by decide +kernel
theorem dL_law_143 : decode cL_law 143 = .ok (.aload_n 1, 1) := by decide +kernel
theorem dL_law_144 : decode cL_law 144 = .ok (.invokevirtual 40, 3) := by decide +kernel
theorem dL_law_147 : decode cL_law 147 = .ok (.istore 4, 2) := by decide +kernel
theorem dL_law_149 : decode cL_law 149 = .ok (.iload_n 2, 1) := by decide +kernel
theorem dL_law_150 : decode cL_law 150 = .ok (.ifCond .eq 65, 3) := by decide +kernel
theorem dL_law_153 : decode cL_law 153 = .ok (.aload_n 1, 1) := by decide +kernel
theorem dL_law_154 : decode cL_law 154 = .ok (.iconst 0, 1) := by decide +kernel
theorem dL_law_155 : decode cL_law 155 = .ok (.invokevirtual 62, 3) := by decide +kernel
theorem dL_law_158 : decode cL_law 158 = .ok (.ifCond .lt 57, 3) := by decide +kernel
theorem dL_law_161 : decode cL_law 161 = .ok (.aload_n 1, 1) := by decide +kernel
theorem dL_law_162 : decode cL_law 162 = .ok (.iconst (-1), 1) := by decide +kernel
theorem dL_law_163 : decode cL_law 163 = .ok (.invokevirtual 25, 3) := by decide +kernel
theorem dL_law_166 : decode cL_law 166 = .ok (.ldc 28, 2) := by decide +kernel
theorem dL_law_168 : decode cL_law 168 = .ok (.if_icmp .ne 47, 3) := by decide +kernel
theorem dL_law_171 : decode cL_law 171 = .ok (.aload_n 1, 1) := by decide +kernel
theorem dL_law_172 : decode cL_law 172 = .ok (.invokevirtual 68, 3) := by decide +kernel
theorem dL_law_175 : decode cL_law 175 = .ok (.ifCond .lt 40, 3) := by decide +kernel
theorem dL_law_178 : decode cL_law 178 = .ok (.aload_n 1, 1) := by decide +kernel
theorem dL_law_179 : decode cL_law 179 = .ok (.iconst 0, 1) := by decide +kernel
theorem dL_law_180 : decode cL_law 180 = .ok (.invokevirtual 29, 3) := by decide +kernel
theorem dL_law_183 : decode cL_law 183 = .ok (.iload_n 3, 1) := by decide +kernel
theorem dL_law_184 : decode cL_law 184 = .ok (.if_icmp .ne 31, 3) := by decide +kernel
theorem dL_law_187 : decode cL_law 187 = .ok (.aload_n 1, 1) := by decide +kernel
theorem dL_law_188 : decode cL_law 188 = .ok (.invokevirtual 40, 3) := by decide +kernel
theorem dL_law_191 : decode cL_law 191 = .ok (.iload 4, 2) := by decide +kernel
theorem dL_law_193 : decode cL_law 193 = .ok (.if_icmp .ne 22, 3) := by decide +kernel
theorem dL_law_196 : decode cL_law 196 = .ok (.aload_n 1, 1) := by decide +kernel
theorem dL_law_197 : decode cL_law 197 = .ok (.invokestatic 74, 3) := by decide +kernel
theorem dL_law_200 : decode cL_law 200 = .ok (.ifCond .eq 15, 3) := by decide +kernel
theorem dL_law_203 : decode cL_law 203 = .ok (.aload_n 1, 1) := by decide +kernel
theorem dL_law_204 : decode cL_law 204 = .ok (.iconst 1, 1) := by decide +kernel
theorem dL_law_205 : decode cL_law 205 = .ok (.invokestatic 77, 3) := by decide +kernel
theorem dL_law_208 : decode cL_law 208 = .ok (.ifCond .eq 7, 3) := by decide +kernel
theorem dL_law_211 : decode cL_law 211 = .ok (.iconst 1, 1) := by decide +kernel
theorem dL_law_212 : decode cL_law 212 = .ok (.goto 4, 3) := by decide +kernel
theorem dL_law_215 : decode cL_law 215 = .ok (.iconst 0, 1) := by decide +kernel
theorem dL_law_216 : decode cL_law 216 = .ok (.ireturn, 1) := by decide +kernel
