theorem dL_cell_0 : decode cL_cell 0 = .ok (.iload_n 1, 1) := by decide +kernel
theorem dL_cell_1 : decode cL_cell 1 = .ok (.aload_n 0, 1) := by decide +kernel
theorem dL_cell_2 : decode cL_cell 2 = .ok (.arraylength, 1) := by decide +kernel
theorem dL_cell_3 : decode cL_cell 3 = .ok (.if_icmp .ge 9, 3) := by decide +kernel
theorem dL_cell_6 : decode cL_cell 6 = .ok (.aload_n 0, 1) := by decide +kernel
theorem dL_cell_7 : decode cL_cell 7 = .ok (.iload_n 1, 1) := by decide +kernel
theorem dL_cell_8 : decode cL_cell 8 = .ok (.iaload, 1) := by decide +kernel
theorem dL_cell_9 : decode cL_cell 9 = .ok (.goto 10, 3) := by decide +kernel
theorem dL_cell_12 : decode cL_cell 12 = .ok (.ldc 7, 2) := by decide +kernel
theorem dL_cell_14 : decode cL_cell 14 = .ok (.iload_n 1, 1) := by decide +kernel
theorem dL_cell_15 : decode cL_cell 15 = .ok (.imul, 1) := by decide +kernel
theorem dL_cell_16 : decode cL_cell 16 = .ok (.ldc 8, 2) := by decide +kernel
theorem dL_cell_18 : decode cL_cell 18 = .ok (.iadd, 1) := by decide +kernel
theorem dL_cell_19 : decode cL_cell 19 = .ok (.ireturn, 1) := by decide +kernel
theorem dL_low_0 : decode cL_low 0 = .ok (.iload_n 0, 1) := by decide +kernel
theorem dL_low_1 : decode cL_low 1 = .ok (.ldc 9, 2) := by decide +kernel
theorem dL_low_3 : decode cL_low 3 = .ok (.iand, 1) := by decide +kernel
theorem dL_low_4 : decode cL_low 4 = .ok (.iload_n 1, 1) := by decide +kernel
theorem dL_low_5 : decode cL_low 5 = .ok (.irem, 1) := by decide +kernel
theorem dL_low_6 : decode cL_low 6 = .ok (.ireturn, 1) := by decide +kernel
theorem dL_mod_0 : decode cL_mod 0 = .ok (.iload_n 0, 1) := by decide +kernel
theorem dL_mod_1 : decode cL_mod 1 = .ok (.iload_n 1, 1) := by decide +kernel
theorem dL_mod_2 : decode cL_mod 2 = .ok (.irem, 1) := by decide +kernel
theorem dL_mod_3 : decode cL_mod 3 = .ok (.istore_n 2, 1) := by decide +kernel
theorem dL_mod_4 : decode cL_mod 4 = .ok (.iload_n 2, 1) := by decide +kernel
theorem dL_mod_5 : decode cL_mod 5 = .ok (.ifCond .ge 9, 3) := by decide +kernel
theorem dL_mod_8 : decode cL_mod 8 = .ok (.iload_n 2, 1) := by decide +kernel
theorem dL_mod_9 : decode cL_mod 9 = .ok (.iload_n 1, 1) := by decide +kernel
theorem dL_mod_10 : decode cL_mod 10 = .ok (.iadd, 1) := by decide +kernel
theorem dL_mod_11 : decode cL_mod 11 = .ok (.goto 4, 3) := by decide +kernel
theorem dL_mod_14 : decode cL_mod 14 = .ok (.iload_n 2, 1) := by decide +kernel
theorem dL_mod_15 : decode cL_mod 15 = .ok (.ireturn, 1) := by decide +kernel
theorem dL_times_0 : decode cL_times 0 = .ok (.iconst 0, 1) := by decide +kernel
theorem dL_times_1 : decode cL_times 1 = .ok (.istore 4, 2) := by decide +kernel
theorem dL_times_3 : decode cL_times 3 = .ok (.iload 4, 2) := by decide +kernel
theorem dL_times_5 : decode cL_times 5 = .ok (.iload_n 2, 1) := by decide +kernel
theorem dL_times_6 : decode cL_times 6 = .ok (.if_icmp .ge 54, 3) := by decide +kernel
theorem dL_times_9 : decode cL_times 9 = .ok (.bipush 39, 2) := by decide +kernel
theorem dL_times_11 : decode cL_times 11 = .ok (.istore 5, 2) := by decide +kernel
theorem dL_times_13 : decode cL_times 13 = .ok (.iload 5, 2) := by decide +kernel
theorem dL_times_15 : decode cL_times 15 = .ok (.ifCond .lt 39, 3) := by decide +kernel
theorem dL_times_18 : decode cL_times 18 = .ok (.aload_n 0, 1) := by decide +kernel
theorem dL_times_19 : decode cL_times 19 = .ok (.iload 5, 2) := by decide +kernel
theorem dL_times_21 : decode cL_times 21 = .ok (.aload_n 0, 1) := by decide +kernel
theorem dL_times_22 : decode cL_times 22 = .ok (.iload 5, 2) := by decide +kernel
theorem dL_times_24 : decode cL_times 24 = .ok (.iaload, 1) := by decide +kernel
theorem dL_times_25 : decode cL_times 25 = .ok (.iload_n 1, 1) := by decide +kernel
theorem dL_times_26 : decode cL_times 26 = .ok (.imul, 1) := by decide +kernel
theorem dL_times_27 : decode cL_times 27 = .ok (.iload 5, 2) := by decide +kernel
theorem dL_times_29 : decode cL_times 29 = .ok (.ifCond .le 12, 3) := by decide +kernel
theorem dL_times_32 : decode cL_times 32 = .ok (.aload_n 0, 1) := by decide +kernel
theorem dL_times_33 : decode cL_times 33 = .ok (.iload 5, 2) := by decide +kernel
theorem dL_times_35 : decode cL_times 35 = .ok (.iconst 1, 1) := by decide +kernel
theorem dL_times_36 : decode cL_times 36 = .ok (.isub, 1) := by decide +kernel
theorem dL_times_37 : decode cL_times 37 = .ok (.iaload, 1) := by decide +kernel
theorem dL_times_38 : decode cL_times 38 = .ok (.goto 4, 3) := by decide +kernel
theorem dL_times_41 : decode cL_times 41 = .ok (.iconst 0, 1) := by decide +kernel
theorem dL_times_42 : decode cL_times 42 = .ok (.iadd, 1) := by decide +kernel
theorem dL_times_43 : decode cL_times 43 = .ok (.iload_n 3, 1) := by decide +kernel
theorem dL_times_44 : decode cL_times 44 = .ok (.invokestatic 10, 3) := by decide +kernel
theorem dL_times_47 : decode cL_times 47 = .ok (.iastore, 1) := by decide +kernel
theorem dL_times_48 : decode cL_times 48 = .ok (.iinc 5 (-1), 3) := by decide +kernel
theorem dL_times_51 : decode cL_times 51 = .ok (.goto (-38), 3) := by decide +kernel
theorem dL_times_54 : decode cL_times 54 = .ok (.iinc 4 1, 3) := by decide +kernel
theorem dL_times_57 : decode cL_times 57 = .ok (.goto (-54), 3) := by decide +kernel
theorem dL_times_60 : decode cL_times 60 = .ok (.return_, 1) := by decide +kernel
theorem dL_at_0 : decode cL_at 0 = .ok (.iconst 0, 1) := by decide +kernel
theorem dL_at_1 : decode cL_at 1 = .ok (.istore_n 3, 1) := by decide +kernel
theorem dL_at_2 : decode cL_at 2 = .ok (.bipush 39, 2) := by decide +kernel
theorem dL_at_4 : decode cL_at 4 = .ok (.istore 4, 2) := by decide +kernel
theorem dL_at_6 : decode cL_at 6 = .ok (.iload 4, 2) := by decide +kernel
theorem dL_at_8 : decode cL_at 8 = .ok (.ifCond .lt 22, 3) := by decide +kernel
theorem dL_at_11 : decode cL_at 11 = .ok (.iload_n 3, 1) := by decide +kernel
theorem dL_at_12 : decode cL_at 12 = .ok (.iload_n 1, 1) := by decide +kernel
theorem dL_at_13 : decode cL_at 13 = .ok (.imul, 1) := by decide +kernel
theorem dL_at_14 : decode cL_at 14 = .ok (.aload_n 0, 1) := by decide +kernel
theorem dL_at_15 : decode cL_at 15 = .ok (.iload 4, 2) := by decide +kernel
theorem dL_at_17 : decode cL_at 17 = .ok (.iaload, 1) := by decide +kernel
theorem dL_at_18 : decode cL_at 18 = .ok (.iadd, 1) := by decide +kernel
theorem dL_at_19 : decode cL_at 19 = .ok (.iload_n 2, 1) := by decide +kernel
theorem dL_at_20 : decode cL_at 20 = .ok (.invokestatic 10, 3) := by decide +kernel
theorem dL_at_23 : decode cL_at 23 = .ok (.istore_n 3, 1) := by decide +kernel
theorem dL_at_24 : decode cL_at 24 = .ok (.iinc 4 (-1), 3) := by decide +kernel
theorem dL_at_27 : decode cL_at 27 = .ok (.goto (-21), 3) := by decide +kernel
theorem dL_at_30 : decode cL_at 30 = .ok (.iload_n 3, 1) := by decide +kernel
theorem dL_at_31 : decode cL_at 31 = .ok (.ireturn, 1) := by decide +kernel
theorem dL_slopeAt_0 : decode cL_slopeAt 0 = .ok (.iconst 0, 1) := by decide +kernel
theorem dL_slopeAt_1 : decode cL_slopeAt 1 = .ok (.istore_n 3, 1) := by decide +kernel
theorem dL_slopeAt_2 : decode cL_slopeAt 2 = .ok (.bipush 39, 2) := by decide +kernel
theorem dL_slopeAt_4 : decode cL_slopeAt 4 = .ok (.istore 4, 2) := by decide +kernel
theorem dL_slopeAt_6 : decode cL_slopeAt 6 = .ok (.iload 4, 2) := by decide +kernel
theorem dL_slopeAt_8 : decode cL_slopeAt 8 = .ok (.ifCond .le 27, 3) := by decide +kernel
theorem dL_slopeAt_11 : decode cL_slopeAt 11 = .ok (.iload_n 3, 1) := by decide +kernel
theorem dL_slopeAt_12 : decode cL_slopeAt 12 = .ok (.iload_n 1, 1) := by decide +kernel
theorem dL_slopeAt_13 : decode cL_slopeAt 13 = .ok (.imul, 1) := by decide +kernel
theorem dL_slopeAt_14 : decode cL_slopeAt 14 = .ok (.aload_n 0, 1) := by decide +kernel
theorem dL_slopeAt_15 : decode cL_slopeAt 15 = .ok (.iload 4, 2) := by decide +kernel
theorem dL_slopeAt_17 : decode cL_slopeAt 17 = .ok (.iaload, 1) := by decide +kernel
theorem dL_slopeAt_18 : decode cL_slopeAt 18 = .ok (.iload 4, 2) := by decide +kernel
theorem dL_slopeAt_20 : decode cL_slopeAt 20 = .ok (.iload_n 2, 1) := by decide +kernel
theorem dL_slopeAt_21 : decode cL_slopeAt 21 = .ok (.irem, 1) := by decide +kernel
theorem dL_slopeAt_22 : decode cL_slopeAt 22 = .ok (.imul, 1) := by decide +kernel
theorem dL_slopeAt_23 : decode cL_slopeAt 23 = .ok (.iadd, 1) := by decide +kernel
theorem dL_slopeAt_24 : decode cL_slopeAt 24 = .ok (.iload_n 2, 1) := by decide +kernel
theorem dL_slopeAt_25 : decode cL_slopeAt 25 = .ok (.invokestatic 10, 3) := by decide +kernel
theorem dL_slopeAt_28 : decode cL_slopeAt 28 = .ok (.istore_n 3, 1) := by decide +kernel
theorem dL_slopeAt_29 : decode cL_slopeAt 29 = .ok (.iinc 4 (-1), 3) := by decide +kernel
theorem dL_slopeAt_32 : decode cL_slopeAt 32 = .ok (.goto (-26), 3) := by decide +kernel
theorem dL_slopeAt_35 : decode cL_slopeAt 35 = .ok (.iload_n 3, 1) := by decide +kernel
theorem dL_slopeAt_36 : decode cL_slopeAt 36 = .ok (.ireturn, 1) := by decide +kernel
theorem dL_inverse_0 : decode cL_inverse 0 = .ok (.iconst 1, 1) := by decide +kernel
theorem dL_inverse_1 : decode cL_inverse 1 = .ok (.istore_n 2, 1) := by decide +kernel
theorem dL_inverse_2 : decode cL_inverse 2 = .ok (.iconst 0, 1) := by decide +kernel
theorem dL_inverse_3 : decode cL_inverse 3 = .ok (.istore_n 3, 1) := by decide +kernel
theorem dL_inverse_4 : decode cL_inverse 4 = .ok (.iload_n 3, 1) := by decide +kernel
theorem dL_inverse_5 : decode cL_inverse 5 = .ok (.iload_n 1, 1) := by decide +kernel
theorem dL_inverse_6 : decode cL_inverse 6 = .ok (.iconst 2, 1) := by decide +kernel
theorem dL_inverse_7 : decode cL_inverse 7 = .ok (.isub, 1) := by decide +kernel
theorem dL_inverse_8 : decode cL_inverse 8 = .ok (.if_icmp .ge 17, 3) := by decide +kernel
theorem dL_inverse_11 : decode cL_inverse 11 = .ok (.iload_n 2, 1) := by decide +kernel
theorem dL_inverse_12 : decode cL_inverse 12 = .ok (.iload_n 0, 1) := by decide +kernel
theorem dL_inverse_13 : decode cL_inverse 13 = .ok (.imul, 1) := by decide +kernel
theorem dL_inverse_14 : decode cL_inverse 14 = .ok (.iload_n 1, 1) := by decide +kernel
theorem dL_inverse_15 : decode cL_inverse 15 = .ok (.invokestatic 10, 3) := by decide +kernel
theorem dL_inverse_18 : decode cL_inverse 18 = .ok (.istore_n 2, 1) := by decide +kernel
theorem dL_inverse_19 : decode cL_inverse 19 = .ok (.iinc 3 1, 3) := by decide +kernel
theorem dL_inverse_22 : decode cL_inverse 22 = .ok (.goto (-18), 3) := by decide +kernel
theorem dL_inverse_25 : decode cL_inverse 25 = .ok (.iload_n 2, 1) := by decide +kernel
theorem dL_inverse_26 : decode cL_inverse 26 = .ok (.ireturn, 1) := by decide +kernel
theorem dL_term_0 : decode cL_term 0 = .ok (.bipush 40, 2) := by decide +kernel
theorem dL_term_2 : decode cL_term 2 = .ok (.newarray .int, 2) := by decide +kernel
theorem dL_term_4 : decode cL_term 4 = .ok (.astore 5, 2) := by decide +kernel
theorem dL_term_6 : decode cL_term 6 = .ok (.iload_n 1, 1) := by decide +kernel
theorem dL_term_7 : decode cL_term 7 = .ok (.bipush 10, 2) := by decide +kernel
theorem dL_term_9 : decode cL_term 9 = .ok (.invokestatic 16, 3) := by decide +kernel
theorem dL_term_12 : decode cL_term 12 = .ok (.istore 6, 2) := by decide +kernel
theorem dL_term_14 : decode cL_term 14 = .ok (.iload_n 1, 1) := by decide +kernel
theorem dL_term_15 : decode cL_term 15 = .ok (.iconst 4, 1) := by decide +kernel
theorem dL_term_16 : decode cL_term 16 = .ok (.ishr, 1) := by decide +kernel
theorem dL_term_17 : decode cL_term 17 = .ok (.bipush 10, 2) := by decide +kernel
theorem dL_term_19 : decode cL_term 19 = .ok (.invokestatic 16, 3) := by decide +kernel
theorem dL_term_22 : decode cL_term 22 = .ok (.istore 7, 2) := by decide +kernel
theorem dL_term_24 : decode cL_term 24 = .ok (.iload_n 1, 1) := by decide +kernel
theorem dL_term_25 : decode cL_term 25 = .ok (.bipush 8, 2) := by decide +kernel
theorem dL_term_27 : decode cL_term 27 = .ok (.ishr, 1) := by decide +kernel
theorem dL_term_28 : decode cL_term 28 = .ok (.bipush 10, 2) := by decide +kernel
theorem dL_term_30 : decode cL_term 30 = .ok (.invokestatic 16, 3) := by decide +kernel
theorem dL_term_33 : decode cL_term 33 = .ok (.istore 8, 2) := by decide +kernel
theorem dL_term_35 : decode cL_term 35 = .ok (.iload_n 1, 1) := by decide +kernel
theorem dL_term_36 : decode cL_term 36 = .ok (.bipush 12, 2) := by decide +kernel
theorem dL_term_38 : decode cL_term 38 = .ok (.ishr, 1) := by decide +kernel
theorem dL_term_39 : decode cL_term 39 = .ok (.iconst 4, 1) := by decide +kernel
theorem dL_term_40 : decode cL_term 40 = .ok (.invokestatic 16, 3) := by decide +kernel
theorem dL_term_43 : decode cL_term 43 = .ok (.istore 9, 2) := by decide +kernel
theorem dL_term_45 : decode cL_term 45 = .ok (.aload 5, 2) := by decide +kernel
theorem dL_term_47 : decode cL_term 47 = .ok (.iconst 0, 1) := by decide +kernel
theorem dL_term_48 : decode cL_term 48 = .ok (.iload 6, 2) := by decide +kernel
theorem dL_term_50 : decode cL_term 50 = .ok (.iload 4, 2) := by decide +kernel
theorem dL_term_52 : decode cL_term 52 = .ok (.invokestatic 10, 3) := by decide +kernel
theorem dL_term_55 : decode cL_term 55 = .ok (.iastore, 1) := by decide +kernel
theorem dL_term_56 : decode cL_term 56 = .ok (.aload_n 0, 1) := by decide +kernel
theorem dL_term_57 : decode cL_term 57 = .ok (.bipush 48, 2) := by decide +kernel
theorem dL_term_59 : decode cL_term 59 = .ok (.iload 6, 2) := by decide +kernel
theorem dL_term_61 : decode cL_term 61 = .ok (.iadd, 1) := by decide +kernel
theorem dL_term_62 : decode cL_term 62 = .ok (.i2c, 1) := by decide +kernel
theorem dL_term_63 : decode cL_term 63 = .ok (.invokevirtual 19, 3) := by decide +kernel
theorem dL_term_66 : decode cL_term 66 = .ok (.pop, 1) := by decide +kernel
theorem dL_term_67 : decode cL_term 67 = .ok (.aload_n 0, 1) := by decide +kernel
theorem dL_term_68 : decode cL_term 68 = .ok (.bipush 42, 2) := by decide +kernel
theorem dL_term_70 : decode cL_term 70 = .ok (.invokevirtual 19, 3) := by decide +kernel
theorem dL_term_73 : decode cL_term 73 = .ok (.pop, 1) := by decide +kernel
theorem dL_term_74 : decode cL_term 74 = .ok (.iconst 2, 1) := by decide +kernel
theorem dL_term_75 : decode cL_term 75 = .ok (.istore 10, 2) := by decide +kernel
theorem dL_term_77 : decode cL_term 77 = .ok (.iload 9, 2) := by decide +kernel
theorem dL_term_79 : decode cL_term 79 = .ok (.ifCond .ne 37, 3) := by decide +kernel
theorem dL_term_82 : decode cL_term 82 = .ok (.aload_n 0, 1) := by decide +kernel
theorem dL_term_83 : decode cL_term 83 = .ok (.bipush 48, 2) := by decide +kernel
theorem dL_term_85 : decode cL_term 85 = .ok (.iload 7, 2) := by decide +kernel
theorem dL_term_87 : decode cL_term 87 = .ok (.iadd, 1) := by decide +kernel
theorem dL_term_88 : decode cL_term 88 = .ok (.i2c, 1) := by decide +kernel
theorem dL_term_89 : decode cL_term 89 = .ok (.invokevirtual 19, 3) := by decide +kernel
theorem dL_term_92 : decode cL_term 92 = .ok (.pop, 1) := by decide +kernel
theorem dL_term_93 : decode cL_term 93 = .ok (.iinc 10 1, 3) := by decide +kernel
theorem dL_term_96 : decode cL_term 96 = .ok (.aload 5, 2) := by decide +kernel
theorem dL_term_98 : decode cL_term 98 = .ok (.iconst 0, 1) := by decide +kernel
theorem dL_term_99 : decode cL_term 99 = .ok (.iload 6, 2) := by decide +kernel
theorem dL_term_101 : decode cL_term 101 = .ok (.iload 7, 2) := by decide +kernel
theorem dL_term_103 : decode cL_term 103 = .ok (.imul, 1) := by decide +kernel
theorem dL_term_104 : decode cL_term 104 = .ok (.iload 4, 2) := by decide +kernel
theorem dL_term_106 : decode cL_term 106 = .ok (.invokestatic 10, 3) := by decide +kernel
theorem dL_term_109 : decode cL_term 109 = .ok (.iastore, 1) := by decide +kernel
theorem dL_term_110 : decode cL_term 110 = .ok (.iconst 0, 1) := by decide +kernel
theorem dL_term_111 : decode cL_term 111 = .ok (.istore 8, 2) := by decide +kernel
theorem dL_term_113 : decode cL_term 113 = .ok (.goto 90, 3) := by decide +kernel
theorem dL_term_116 : decode cL_term 116 = .ok (.iload 9, 2) := by decide +kernel
theorem dL_term_118 : decode cL_term 118 = .ok (.iconst 1, 1) := by decide +kernel
theorem dL_term_119 : decode cL_term 119 = .ok (.if_icmp .ne 16, 3) := by decide +kernel
theorem dL_term_122 : decode cL_term 122 = .ok (.aload_n 0, 1) := by decide +kernel
theorem dL_term_123 : decode cL_term 123 = .ok (.bipush 120, 2) := by decide +kernel
theorem dL_term_125 : decode cL_term 125 = .ok (.invokevirtual 19, 3) := by decide +kernel
theorem dL_term_128 : decode cL_term 128 = .ok (.pop, 1) := by decide +kernel
theorem dL_term_129 : decode cL_term 129 = .ok (.iinc 10 1, 3) := by decide +kernel
theorem dL_term_132 : decode cL_term 132 = .ok (.goto 71, 3) := by decide +kernel
theorem dL_term_135 : decode cL_term 135 = .ok (.iload 9, 2) := by decide +kernel
theorem dL_term_137 : decode cL_term 137 = .ok (.iconst 2, 1) := by decide +kernel
theorem dL_term_138 : decode cL_term 138 = .ok (.if_icmp .ne 23, 3) := by decide +kernel
theorem dL_term_141 : decode cL_term 141 = .ok (.aload_n 0, 1) := by decide +kernel
theorem dL_term_142 : decode cL_term 142 = .ok (.bipush 45, 2) := by decide +kernel
theorem dL_term_144 : decode cL_term 144 = .ok (.invokevirtual 19, 3) := by decide +kernel
theorem dL_term_147 : decode cL_term 147 = .ok (.pop, 1) := by decide +kernel
theorem dL_term_148 : decode cL_term 148 = .ok (.aload_n 0, 1) := by decide +kernel
theorem dL_term_149 : decode cL_term 149 = .ok (.bipush 120, 2) := by decide +kernel
theorem dL_term_151 : decode cL_term 151 = .ok (.invokevirtual 19, 3) := by decide +kernel
theorem dL_term_154 : decode cL_term 154 = .ok (.pop, 1) := by decide +kernel
theorem dL_term_155 : decode cL_term 155 = .ok (.iinc 10 2, 3) := by decide +kernel
theorem dL_term_158 : decode cL_term 158 = .ok (.goto 45, 3) := by decide +kernel
theorem dL_term_161 : decode cL_term 161 = .ok (.aload_n 0, 1) := by decide +kernel
theorem dL_term_162 : decode cL_term 162 = .ok (.bipush 40, 2) := by decide +kernel
theorem dL_term_164 : decode cL_term 164 = .ok (.invokevirtual 19, 3) := by decide +kernel
theorem dL_term_167 : decode cL_term 167 = .ok (.pop, 1) := by decide +kernel
theorem dL_term_168 : decode cL_term 168 = .ok (.aload_n 0, 1) := by decide +kernel
theorem dL_term_169 : decode cL_term 169 = .ok (.bipush 120, 2) := by decide +kernel
theorem dL_term_171 : decode cL_term 171 = .ok (.invokevirtual 19, 3) := by decide +kernel
theorem dL_term_174 : decode cL_term 174 = .ok (.pop, 1) := by decide +kernel
theorem dL_term_175 : decode cL_term 175 = .ok (.aload_n 0, 1) := by decide +kernel
theorem dL_term_176 : decode cL_term 176 = .ok (.bipush 43, 2) := by decide +kernel
theorem dL_term_178 : decode cL_term 178 = .ok (.invokevirtual 19, 3) := by decide +kernel
theorem dL_term_181 : decode cL_term 181 = .ok (.pop, 1) := by decide +kernel
theorem dL_term_182 : decode cL_term 182 = .ok (.aload_n 0, 1) := by decide +kernel
theorem dL_term_183 : decode cL_term 183 = .ok (.bipush 48, 2) := by decide +kernel
theorem dL_term_185 : decode cL_term 185 = .ok (.iload 7, 2) := by decide +kernel
theorem dL_term_187 : decode cL_term 187 = .ok (.iadd, 1) := by decide +kernel
theorem dL_term_188 : decode cL_term 188 = .ok (.i2c, 1) := by decide +kernel
theorem dL_term_189 : decode cL_term 189 = .ok (.invokevirtual 19, 3) := by decide +kernel
theorem dL_term_192 : decode cL_term 192 = .ok (.pop, 1) := by decide +kernel
theorem dL_term_193 : decode cL_term 193 = .ok (.aload_n 0, 1) := by decide +kernel
theorem dL_term_194 : decode cL_term 194 = .ok (.bipush 41, 2) := by decide +kernel
theorem dL_term_196 : decode cL_term 196 = .ok (.invokevirtual 19, 3) := by decide +kernel
theorem dL_term_199 : decode cL_term 199 = .ok (.pop, 1) := by decide +kernel
theorem dL_term_200 : decode cL_term 200 = .ok (.iinc 10 3, 3) := by decide +kernel
theorem dL_term_203 : decode cL_term 203 = .ok (.iload 9, 2) := by decide +kernel
theorem dL_term_205 : decode cL_term 205 = .ok (.ifCond .le 50, 3) := by decide +kernel
theorem dL_term_208 : decode cL_term 208 = .ok (.aload_n 0, 1) := by decide +kernel
theorem dL_term_209 : decode cL_term 209 = .ok (.bipush 94, 2) := by decide +kernel
theorem dL_term_211 : decode cL_term 211 = .ok (.invokevirtual 19, 3) := by decide +kernel
theorem dL_term_214 : decode cL_term 214 = .ok (.pop, 1) := by decide +kernel
theorem dL_term_215 : decode cL_term 215 = .ok (.aload_n 0, 1) := by decide +kernel
theorem dL_term_216 : decode cL_term 216 = .ok (.bipush 48, 2) := by decide +kernel
theorem dL_term_218 : decode cL_term 218 = .ok (.iload 8, 2) := by decide +kernel
theorem dL_term_220 : decode cL_term 220 = .ok (.iadd, 1) := by decide +kernel
theorem dL_term_221 : decode cL_term 221 = .ok (.i2c, 1) := by decide +kernel
theorem dL_term_222 : decode cL_term 222 = .ok (.invokevirtual 19, 3) := by decide +kernel
theorem dL_term_225 : decode cL_term 225 = .ok (.pop, 1) := by decide +kernel
theorem dL_term_226 : decode cL_term 226 = .ok (.iinc 10 1, 3) := by decide +kernel
theorem dL_term_229 : decode cL_term 229 = .ok (.aload 5, 2) := by decide +kernel
theorem dL_term_231 : decode cL_term 231 = .ok (.iload 9, 2) := by decide +kernel
theorem dL_term_233 : decode cL_term 233 = .ok (.iconst 3, 1) := by decide +kernel
theorem dL_term_234 : decode cL_term 234 = .ok (.if_icmp .ne 13, 3) := by decide +kernel
theorem dL_term_237 : decode cL_term 237 = .ok (.iload 7, 2) := by decide +kernel
theorem dL_term_239 : decode cL_term 239 = .ok (.iload 4, 2) := by decide +kernel
theorem dL_term_241 : decode cL_term 241 = .ok (.invokestatic 10, 3) := by decide +kernel
theorem dL_term_244 : decode cL_term 244 = .ok (.goto 4, 3) := by decide +kernel
theorem dL_term_247 : decode cL_term 247 = .ok (.iconst 0, 1) := by decide +kernel
theorem dL_term_248 : decode cL_term 248 = .ok (.iload 8, 2) := by decide +kernel
theorem dL_term_250 : decode cL_term 250 = .ok (.iload 4, 2) := by decide +kernel
theorem dL_term_252 : decode cL_term 252 = .ok (.invokestatic 25, 3) := by decide +kernel
theorem dL_term_255 : decode cL_term 255 = .ok (.iload_n 2, 1) := by decide +kernel
theorem dL_term_256 : decode cL_term 256 = .ok (.iload 9, 2) := by decide +kernel
theorem dL_term_258 : decode cL_term 258 = .ok (.iconst 2, 1) := by decide +kernel
theorem dL_term_259 : decode cL_term 259 = .ok (.if_icmp .ne 15, 3) := by decide +kernel
theorem dL_term_262 : decode cL_term 262 = .ok (.iload 8, 2) := by decide +kernel
theorem dL_term_264 : decode cL_term 264 = .ok (.iconst 2, 1) := by decide +kernel
theorem dL_term_265 : decode cL_term 265 = .ok (.irem, 1) := by decide +kernel
theorem dL_term_266 : decode cL_term 266 = .ok (.iconst 1, 1) := by decide +kernel
theorem dL_term_267 : decode cL_term 267 = .ok (.if_icmp .ne 7, 3) := by decide +kernel
theorem dL_term_270 : decode cL_term 270 = .ok (.iconst 1, 1) := by decide +kernel
theorem dL_term_271 : decode cL_term 271 = .ok (.goto 4, 3) := by decide +kernel
theorem dL_term_274 : decode cL_term 274 = .ok (.iconst 0, 1) := by decide +kernel
theorem dL_term_275 : decode cL_term 275 = .ok (.if_icmp .eq 7, 3) := by decide +kernel
theorem dL_term_278 : decode cL_term 278 = .ok (.iconst 1, 1) := by decide +kernel
theorem dL_term_279 : decode cL_term 279 = .ok (.goto 4, 3) := by decide +kernel
theorem dL_term_282 : decode cL_term 282 = .ok (.iconst 0, 1) := by decide +kernel
theorem dL_term_283 : decode cL_term 283 = .ok (.istore 11, 2) := by decide +kernel
theorem dL_term_285 : decode cL_term 285 = .ok (.iconst 0, 1) := by decide +kernel
theorem dL_term_286 : decode cL_term 286 = .ok (.istore 12, 2) := by decide +kernel
theorem dL_term_288 : decode cL_term 288 = .ok (.iload 12, 2) := by decide +kernel
theorem dL_term_290 : decode cL_term 290 = .ok (.bipush 40, 2) := by decide +kernel
theorem dL_term_292 : decode cL_term 292 = .ok (.if_icmp .ge 42, 3) := by decide +kernel
theorem dL_term_295 : decode cL_term 295 = .ok (.aload_n 3, 1) := by decide +kernel
theorem dL_term_296 : decode cL_term 296 = .ok (.iload 12, 2) := by decide +kernel
theorem dL_term_298 : decode cL_term 298 = .ok (.aload_n 3, 1) := by decide +kernel
theorem dL_term_299 : decode cL_term 299 = .ok (.iload 12, 2) := by decide +kernel
theorem dL_term_301 : decode cL_term 301 = .ok (.iaload, 1) := by decide +kernel
theorem dL_term_302 : decode cL_term 302 = .ok (.iload 11, 2) := by decide +kernel
theorem dL_term_304 : decode cL_term 304 = .ok (.ifCond .eq 12, 3) := by decide +kernel
theorem dL_term_307 : decode cL_term 307 = .ok (.aload 5, 2) := by decide +kernel
theorem dL_term_309 : decode cL_term 309 = .ok (.iload 12, 2) := by decide +kernel
theorem dL_term_311 : decode cL_term 311 = .ok (.iaload, 1) := by decide +kernel
theorem dL_term_312 : decode cL_term 312 = .ok (.ineg, 1) := by decide +kernel
theorem dL_term_313 : decode cL_term 313 = .ok (.goto 8, 3) := by decide +kernel
theorem dL_term_316 : decode cL_term 316 = .ok (.aload 5, 2) := by decide +kernel
theorem dL_term_318 : decode cL_term 318 = .ok (.iload 12, 2) := by decide +kernel
theorem dL_term_320 : decode cL_term 320 = .ok (.iaload, 1) := by decide +kernel
theorem dL_term_321 : decode cL_term 321 = .ok (.iadd, 1) := by decide +kernel
theorem dL_term_322 : decode cL_term 322 = .ok (.iload 4, 2) := by decide +kernel
theorem dL_term_324 : decode cL_term 324 = .ok (.invokestatic 10, 3) := by decide +kernel
theorem dL_term_327 : decode cL_term 327 = .ok (.iastore, 1) := by decide +kernel
theorem dL_term_328 : decode cL_term 328 = .ok (.iinc 12 1, 3) := by decide +kernel
theorem dL_term_331 : decode cL_term 331 = .ok (.goto (-43), 3) := by decide +kernel
theorem dL_term_334 : decode cL_term 334 = .ok (.iload 10, 2) := by decide +kernel
theorem dL_term_336 : decode cL_term 336 = .ok (.ireturn, 1) := by decide +kernel
theorem dL_define_0 : decode cL_define 0 = .ok (.aload_n 0, 1) := by decide +kernel
theorem dL_define_1 : decode cL_define 1 = .ok (.iload_n 1, 1) := by decide +kernel
theorem dL_define_2 : decode cL_define 2 = .ok (.invokevirtual 29, 3) := by decide +kernel
theorem dL_define_5 : decode cL_define 5 = .ok (.ireturn, 1) := by decide +kernel
theorem dL_define_6 : decode cL_define 6 = .ok (.astore_n 2, 1) := by decide +kernel
theorem dL_define_7 : decode cL_define 7 = .ok (.bipush (-101), 2) := by decide +kernel
theorem dL_define_9 : decode cL_define 9 = .ok (.ireturn, 1) := by decide +kernel
theorem dL_define_10 : decode cL_define 10 = .ok (.astore_n 2, 1) := by decide +kernel
theorem dL_define_11 : decode cL_define 11 = .ok (.bipush (-102), 2) := by decide +kernel
theorem dL_define_13 : decode cL_define 13 = .ok (.ireturn, 1) := by decide +kernel
theorem dL_modulus_0 : decode cL_modulus 0 = .ok (.aload_n 0, 1) := by decide +kernel
theorem dL_modulus_1 : decode cL_modulus 1 = .ok (.iload_n 1, 1) := by decide +kernel
theorem dL_modulus_2 : decode cL_modulus 2 = .ok (.invokevirtual 37, 3) := by decide +kernel
theorem dL_modulus_5 : decode cL_modulus 5 = .ok (.ireturn, 1) := by decide +kernel
theorem dL_modulus_6 : decode cL_modulus 6 = .ok (.astore_n 2, 1) := by decide +kernel
theorem dL_modulus_7 : decode cL_modulus 7 = .ok (.bipush (-101), 2) := by decide +kernel
theorem dL_modulus_9 : decode cL_modulus 9 = .ok (.ireturn, 1) := by decide +kernel
theorem dL_same_0 : decode cL_same 0 = .ok (.iconst 0, 1) := by decide +kernel
theorem dL_same_1 : decode cL_same 1 = .ok (.istore 5, 2) := by decide +kernel
theorem dL_same_3 : decode cL_same 3 = .ok (.iconst 0, 1) := by decide +kernel
theorem dL_same_4 : decode cL_same 4 = .ok (.istore 6, 2) := by decide +kernel
theorem dL_same_6 : decode cL_same 6 = .ok (.iconst 0, 1) := by decide +kernel
theorem dL_same_7 : decode cL_same 7 = .ok (.istore 7, 2) := by decide +kernel
theorem dL_same_9 : decode cL_same 9 = .ok (.iconst (-1), 1) := by decide +kernel
theorem dL_same_10 : decode cL_same 10 = .ok (.istore 8, 2) := by decide +kernel
theorem dL_same_12 : decode cL_same 12 = .ok (.iconst 0, 1) := by decide +kernel
theorem dL_same_13 : decode cL_same 13 = .ok (.istore 9, 2) := by decide +kernel
theorem dL_same_15 : decode cL_same 15 = .ok (.iload 9, 2) := by decide +kernel
theorem dL_same_17 : decode cL_same 17 = .ok (.iload 4, 2) := by decide +kernel
theorem dL_same_19 : decode cL_same 19 = .ok (.if_icmp .ge 319, 3) := by decide +kernel
theorem dL_same_22 : decode cL_same 22 = .ok (.aload_n 2, 1) := by decide +kernel
theorem dL_same_23 : decode cL_same 23 = .ok (.iload 9, 2) := by decide +kernel
theorem dL_same_25 : decode cL_same 25 = .ok (.iload 4, 2) := by decide +kernel
theorem dL_same_27 : decode cL_same 27 = .ok (.invokestatic 42, 3) := by decide +kernel
theorem dL_same_30 : decode cL_same 30 = .ok (.istore 10, 2) := by decide +kernel
theorem dL_same_32 : decode cL_same 32 = .ok (.aload_n 3, 1) := by decide +kernel
theorem dL_same_33 : decode cL_same 33 = .ok (.iload 9, 2) := by decide +kernel
theorem dL_same_35 : decode cL_same 35 = .ok (.iload 4, 2) := by decide +kernel
theorem dL_same_37 : decode cL_same 37 = .ok (.invokestatic 42, 3) := by decide +kernel
theorem dL_same_40 : decode cL_same 40 = .ok (.istore 11, 2) := by decide +kernel
theorem dL_same_42 : decode cL_same 42 = .ok (.aload_n 2, 1) := by decide +kernel
theorem dL_same_43 : decode cL_same 43 = .ok (.iload 9, 2) := by decide +kernel
theorem dL_same_45 : decode cL_same 45 = .ok (.iload 4, 2) := by decide +kernel
theorem dL_same_47 : decode cL_same 47 = .ok (.invokestatic 46, 3) := by decide +kernel
theorem dL_same_50 : decode cL_same 50 = .ok (.istore 12, 2) := by decide +kernel
theorem dL_same_52 : decode cL_same 52 = .ok (.aload_n 3, 1) := by decide +kernel
theorem dL_same_53 : decode cL_same 53 = .ok (.iload 9, 2) := by decide +kernel
theorem dL_same_55 : decode cL_same 55 = .ok (.iload 4, 2) := by decide +kernel
theorem dL_same_57 : decode cL_same 57 = .ok (.invokestatic 46, 3) := by decide +kernel
theorem dL_same_60 : decode cL_same 60 = .ok (.istore 13, 2) := by decide +kernel
theorem dL_same_62 : decode cL_same 62 = .ok (.iload 11, 2) := by decide +kernel
theorem dL_same_64 : decode cL_same 64 = .ok (.ifCond .eq 7, 3) := by decide +kernel
theorem dL_same_67 : decode cL_same 67 = .ok (.iconst 1, 1) := by decide +kernel
theorem dL_same_68 : decode cL_same 68 = .ok (.goto 4, 3) := by decide +kernel
theorem dL_same_71 : decode cL_same 71 = .ok (.iconst 0, 1) := by decide +kernel
theorem dL_same_72 : decode cL_same 72 = .ok (.istore 14, 2) := by decide +kernel
theorem dL_same_74 : decode cL_same 74 = .ok (.iload 14, 2) := by decide +kernel
theorem dL_same_76 : decode cL_same 76 = .ok (.ifCond .eq 13, 3) := by decide +kernel
theorem dL_same_79 : decode cL_same 79 = .ok (.iload 11, 2) := by decide +kernel
theorem dL_same_81 : decode cL_same 81 = .ok (.iload 4, 2) := by decide +kernel
theorem dL_same_83 : decode cL_same 83 = .ok (.invokestatic 49, 3) := by decide +kernel
theorem dL_same_86 : decode cL_same 86 = .ok (.goto 4, 3) := by decide +kernel
theorem dL_same_89 : decode cL_same 89 = .ok (.iconst 0, 1) := by decide +kernel
theorem dL_same_90 : decode cL_same 90 = .ok (.istore 15, 2) := by decide +kernel
theorem dL_same_92 : decode cL_same 92 = .ok (.iload 14, 2) := by decide +kernel
theorem dL_same_94 : decode cL_same 94 = .ok (.ifCond .eq 16, 3) := by decide +kernel
theorem dL_same_97 : decode cL_same 97 = .ok (.iload 10, 2) := by decide +kernel
theorem dL_same_99 : decode cL_same 99 = .ok (.iload 15, 2) := by decide +kernel
theorem dL_same_101 : decode cL_same 101 = .ok (.imul, 1) := by decide +kernel
theorem dL_same_102 : decode cL_same 102 = .ok (.iload 4, 2) := by decide +kernel
theorem dL_same_104 : decode cL_same 104 = .ok (.invokestatic 10, 3) := by decide +kernel
theorem dL_same_107 : decode cL_same 107 = .ok (.goto 4, 3) := by decide +kernel
theorem dL_same_110 : decode cL_same 110 = .ok (.iconst (-1), 1) := by decide +kernel
theorem dL_same_111 : decode cL_same 111 = .ok (.istore 16, 2) := by decide +kernel
theorem dL_same_113 : decode cL_same 113 = .ok (.iload 14, 2) := by decide +kernel
theorem dL_same_115 : decode cL_same 115 = .ok (.ifCond .eq 38, 3) := by decide +kernel
theorem dL_same_118 : decode cL_same 118 = .ok (.iload 12, 2) := by decide +kernel
theorem dL_same_120 : decode cL_same 120 = .ok (.iload 11, 2) := by decide +kernel
theorem dL_same_122 : decode cL_same 122 = .ok (.imul, 1) := by decide +kernel
theorem dL_same_123 : decode cL_same 123 = .ok (.iload 10, 2) := by decide +kernel
theorem dL_same_125 : decode cL_same 125 = .ok (.iload 13, 2) := by decide +kernel
theorem dL_same_127 : decode cL_same 127 = .ok (.imul, 1) := by decide +kernel
theorem dL_same_128 : decode cL_same 128 = .ok (.isub, 1) := by decide +kernel
theorem dL_same_129 : decode cL_same 129 = .ok (.iload 4, 2) := by decide +kernel
theorem dL_same_131 : decode cL_same 131 = .ok (.invokestatic 10, 3) := by decide +kernel
theorem dL_same_134 : decode cL_same 134 = .ok (.iload 15, 2) := by decide +kernel
theorem dL_same_136 : decode cL_same 136 = .ok (.iload 15, 2) := by decide +kernel
theorem dL_same_138 : decode cL_same 138 = .ok (.imul, 1) := by decide +kernel
theorem dL_same_139 : decode cL_same 139 = .ok (.iload 4, 2) := by decide +kernel
theorem dL_same_141 : decode cL_same 141 = .ok (.invokestatic 10, 3) := by decide +kernel
theorem dL_same_144 : decode cL_same 144 = .ok (.imul, 1) := by decide +kernel
theorem dL_same_145 : decode cL_same 145 = .ok (.iload 4, 2) := by decide +kernel
theorem dL_same_147 : decode cL_same 147 = .ok (.invokestatic 10, 3) := by decide +kernel
theorem dL_same_150 : decode cL_same 150 = .ok (.goto 4, 3) := by decide +kernel
theorem dL_same_153 : decode cL_same 153 = .ok (.iconst (-1), 1) := by decide +kernel
theorem dL_same_154 : decode cL_same 154 = .ok (.istore 17, 2) := by decide +kernel
theorem dL_same_156 : decode cL_same 156 = .ok (.iload 14, 2) := by decide +kernel
theorem dL_same_158 : decode cL_same 158 = .ok (.ifCond .eq 8, 3) := by decide +kernel
theorem dL_same_161 : decode cL_same 161 = .ok (.iload 17, 2) := by decide +kernel
theorem dL_same_163 : decode cL_same 163 = .ok (.ifCond .ne 7, 3) := by decide +kernel
theorem dL_same_166 : decode cL_same 166 = .ok (.iconst (-1), 1) := by decide +kernel
theorem dL_same_167 : decode cL_same 167 = .ok (.goto 21, 3) := by decide +kernel
theorem dL_same_170 : decode cL_same 170 = .ok (.iload 9, 2) := by decide +kernel
theorem dL_same_172 : decode cL_same 172 = .ok (.iload 16, 2) := by decide +kernel
theorem dL_same_174 : decode cL_same 174 = .ok (.iload 17, 2) := by decide +kernel
theorem dL_same_176 : decode cL_same 176 = .ok (.iload 4, 2) := by decide +kernel
theorem dL_same_178 : decode cL_same 178 = .ok (.invokestatic 49, 3) := by decide +kernel
theorem dL_same_181 : decode cL_same 181 = .ok (.imul, 1) := by decide +kernel
theorem dL_same_182 : decode cL_same 182 = .ok (.isub, 1) := by decide +kernel
theorem dL_same_183 : decode cL_same 183 = .ok (.iload 4, 2) := by decide +kernel
theorem dL_same_185 : decode cL_same 185 = .ok (.invokestatic 10, 3) := by decide +kernel
theorem dL_same_188 : decode cL_same 188 = .ok (.istore 18, 2) := by decide +kernel
theorem dL_same_190 : decode cL_same 190 = .ok (.iload 5, 2) := by decide +kernel
theorem dL_same_192 : decode cL_same 192 = .ok (.iload 14, 2) := by decide +kernel
theorem dL_same_194 : decode cL_same 194 = .ok (.ifCond .eq 7, 3) := by decide +kernel
theorem dL_same_197 : decode cL_same 197 = .ok (.iconst 0, 1) := by decide +kernel
theorem dL_same_198 : decode cL_same 198 = .ok (.goto 4, 3) := by decide +kernel
theorem dL_same_201 : decode cL_same 201 = .ok (.iconst 1, 1) := by decide +kernel
theorem dL_same_202 : decode cL_same 202 = .ok (.iadd, 1) := by decide +kernel
theorem dL_same_203 : decode cL_same 203 = .ok (.istore 5, 2) := by decide +kernel
theorem dL_same_205 : decode cL_same 205 = .ok (.iload 6, 2) := by decide +kernel
theorem dL_same_207 : decode cL_same 207 = .ok (.iload 17, 2) := by decide +kernel
theorem dL_same_209 : decode cL_same 209 = .ok (.ifCond .ne 7, 3) := by decide +kernel
theorem dL_same_212 : decode cL_same 212 = .ok (.iconst 1, 1) := by decide +kernel
theorem dL_same_213 : decode cL_same 213 = .ok (.goto 4, 3) := by decide +kernel
theorem dL_same_216 : decode cL_same 216 = .ok (.iconst 0, 1) := by decide +kernel
theorem dL_same_217 : decode cL_same 217 = .ok (.iadd, 1) := by decide +kernel
theorem dL_same_218 : decode cL_same 218 = .ok (.istore 6, 2) := by decide +kernel
theorem dL_same_220 : decode cL_same 220 = .ok (.iload 17, 2) := by decide +kernel
theorem dL_same_222 : decode cL_same 222 = .ok (.ifCond .ne 13, 3) := by decide +kernel
theorem dL_same_225 : decode cL_same 225 = .ok (.iload 8, 2) := by decide +kernel
theorem dL_same_227 : decode cL_same 227 = .ok (.ifCond .ge 8, 3) := by decide +kernel
theorem dL_same_230 : decode cL_same 230 = .ok (.iload 9, 2) := by decide +kernel
theorem dL_same_232 : decode cL_same 232 = .ok (.goto 5, 3) := by decide +kernel
theorem dL_same_235 : decode cL_same 235 = .ok (.iload 8, 2) := by decide +kernel
theorem dL_same_237 : decode cL_same 237 = .ok (.istore 8, 2) := by decide +kernel
theorem dL_same_239 : decode cL_same 239 = .ok (.iload 7, 2) := by decide +kernel
theorem dL_same_241 : decode cL_same 241 = .ok (.iload 16, 2) := by decide +kernel
theorem dL_same_243 : decode cL_same 243 = .ok (.ifCond .ne 7, 3) := by decide +kernel
theorem dL_same_246 : decode cL_same 246 = .ok (.iconst 1, 1) := by decide +kernel
theorem dL_same_247 : decode cL_same 247 = .ok (.goto 4, 3) := by decide +kernel
theorem dL_same_250 : decode cL_same 250 = .ok (.iconst 0, 1) := by decide +kernel
theorem dL_same_251 : decode cL_same 251 = .ok (.iadd, 1) := by decide +kernel
theorem dL_same_252 : decode cL_same 252 = .ok (.istore 7, 2) := by decide +kernel
theorem dL_same_254 : decode cL_same 254 = .ok (.aload_n 0, 1) := by decide +kernel
theorem dL_same_255 : decode cL_same 255 = .ok (.iload_n 1, 1) := by decide +kernel
theorem dL_same_256 : decode cL_same 256 = .ok (.iload 9, 2) := by decide +kernel
theorem dL_same_258 : decode cL_same 258 = .ok (.invokevirtual 52, 3) := by decide +kernel
theorem dL_same_261 : decode cL_same 261 = .ok (.iload 16, 2) := by decide +kernel
theorem dL_same_263 : decode cL_same 263 = .ok (.if_icmp .ne 67, 3) := by decide +kernel
theorem dL_same_266 : decode cL_same 266 = .ok (.aload_n 0, 1) := by decide +kernel
theorem dL_same_267 : decode cL_same 267 = .ok (.iload_n 1, 1) := by decide +kernel
theorem dL_same_268 : decode cL_same 268 = .ok (.iload 9, 2) := by decide +kernel
theorem dL_same_270 : decode cL_same 270 = .ok (.invokevirtual 55, 3) := by decide +kernel
theorem dL_same_273 : decode cL_same 273 = .ok (.iload 17, 2) := by decide +kernel
theorem dL_same_275 : decode cL_same 275 = .ok (.if_icmp .ne 55, 3) := by decide +kernel
theorem dL_same_278 : decode cL_same 278 = .ok (.aload_n 0, 1) := by decide +kernel
theorem dL_same_279 : decode cL_same 279 = .ok (.iload_n 1, 1) := by decide +kernel
theorem dL_same_280 : decode cL_same 280 = .ok (.iload 9, 2) := by decide +kernel
theorem dL_same_282 : decode cL_same 282 = .ok (.invokevirtual 58, 3) := by decide +kernel
theorem dL_same_285 : decode cL_same 285 = .ok (.iload 17, 2) := by decide +kernel
theorem dL_same_287 : decode cL_same 287 = .ok (.if_icmp .ne 43, 3) := by decide +kernel
theorem dL_same_290 : decode cL_same 290 = .ok (.aload_n 0, 1) := by decide +kernel
theorem dL_same_291 : decode cL_same 291 = .ok (.iload_n 1, 1) := by decide +kernel
theorem dL_same_292 : decode cL_same 292 = .ok (.iload 9, 2) := by decide +kernel
theorem dL_same_294 : decode cL_same 294 = .ok (.invokevirtual 61, 3) := by decide +kernel
theorem dL_same_297 : decode cL_same 297 = .ok (.iload 18, 2) := by decide +kernel
theorem dL_same_299 : decode cL_same 299 = .ok (.if_icmp .ne 31, 3) := by decide +kernel
theorem dL_same_302 : decode cL_same 302 = .ok (.aload_n 0, 1) := by decide +kernel
theorem dL_same_303 : decode cL_same 303 = .ok (.iload_n 1, 1) := by decide +kernel
theorem dL_same_304 : decode cL_same 304 = .ok (.iload 9, 2) := by decide +kernel
theorem dL_same_306 : decode cL_same 306 = .ok (.invokevirtual 64, 3) := by decide +kernel
theorem dL_same_309 : decode cL_same 309 = .ok (.ifCond .ne 7, 3) := by decide +kernel
theorem dL_same_312 : decode cL_same 312 = .ok (.iconst 1, 1) := by decide +kernel
theorem dL_same_313 : decode cL_same 313 = .ok (.goto 4, 3) := by decide +kernel
theorem dL_same_316 : decode cL_same 316 = .ok (.iconst 0, 1) := by decide +kernel
theorem dL_same_317 : decode cL_same 317 = .ok (.iload 16, 2) := by decide +kernel
theorem dL_same_319 : decode cL_same 319 = .ok (.ifCond .ne 7, 3) := by decide +kernel
theorem dL_same_322 : decode cL_same 322 = .ok (.iconst 1, 1) := by decide +kernel
theorem dL_same_323 : decode cL_same 323 = .ok (.goto 4, 3) := by decide +kernel
theorem dL_same_326 : decode cL_same 326 = .ok (.iconst 0, 1) := by decide +kernel
theorem dL_same_327 : decode cL_same 327 = .ok (.if_icmp .eq 5, 3) := by decide +kernel
theorem dL_same_330 : decode cL_same 330 = .ok (.iconst 0, 1) := by decide +kernel
theorem dL_same_331 : decode cL_same 331 = .ok (.ireturn, 1) := by decide +kernel
theorem dL_same_332 : decode cL_same 332 = .ok (.iinc 9 1, 3) := by decide +kernel
theorem dL_same_335 : decode cL_same 335 = .ok (.goto (-320), 3) := by decide +kernel
theorem dL_same_338 : decode cL_same 338 = .ok (.aload_n 0, 1) := by decide +kernel
theorem dL_same_339 : decode cL_same 339 = .ok (.iload_n 1, 1) := by decide +kernel
theorem dL_same_340 : decode cL_same 340 = .ok (.invokevirtual 67, 3) := by decide +kernel
theorem dL_same_343 : decode cL_same 343 = .ok (.iload 5, 2) := by decide +kernel
theorem dL_same_345 : decode cL_same 345 = .ok (.if_icmp .ne 37, 3) := by decide +kernel
theorem dL_same_348 : decode cL_same 348 = .ok (.aload_n 0, 1) := by decide +kernel
theorem dL_same_349 : decode cL_same 349 = .ok (.iload_n 1, 1) := by decide +kernel
theorem dL_same_350 : decode cL_same 350 = .ok (.invokevirtual 70, 3) := by decide +kernel
theorem dL_same_353 : decode cL_same 353 = .ok (.iload 6, 2) := by decide +kernel
theorem dL_same_355 : decode cL_same 355 = .ok (.if_icmp .ne 27, 3) := by decide +kernel
theorem dL_same_358 : decode cL_same 358 = .ok (.aload_n 0, 1) := by decide +kernel
theorem dL_same_359 : decode cL_same 359 = .ok (.iload_n 1, 1) := by decide +kernel
theorem dL_same_360 : decode cL_same 360 = .ok (.invokevirtual 73, 3) := by decide +kernel
theorem dL_same_363 : decode cL_same 363 = .ok (.iload 7, 2) := by decide +kernel
theorem dL_same_365 : decode cL_same 365 = .ok (.if_icmp .ne 17, 3) := by decide +kernel
theorem dL_same_368 : decode cL_same 368 = .ok (.aload_n 0, 1) := by decide +kernel
theorem dL_same_369 : decode cL_same 369 = .ok (.iload_n 1, 1) := by decide +kernel
theorem dL_same_370 : decode cL_same 370 = .ok (.invokevirtual 76, 3) := by decide +kernel
theorem dL_same_373 : decode cL_same 373 = .ok (.iload 8, 2) := by decide +kernel
theorem dL_same_375 : decode cL_same 375 = .ok (.if_icmp .ne 7, 3) := by decide +kernel
theorem dL_same_378 : decode cL_same 378 = .ok (.iconst 1, 1) := by decide +kernel
theorem dL_same_379 : decode cL_same 379 = .ok (.goto 4, 3) := by decide +kernel
theorem dL_same_382 : decode cL_same 382 = .ok (.iconst 0, 1) := by decide +kernel
theorem dL_same_383 : decode cL_same 383 = .ok (.ireturn, 1) := by decide +kernel
theorem dL_prime_0 : decode cL_prime 0 = .ok (.iconst 2, 1) := by decide +kernel
theorem dL_prime_1 : decode cL_prime 1 = .ok (.iload_n 0, 1) := by decide +kernel
theorem dL_prime_2 : decode cL_prime 2 = .ok (.bipush 60, 2) := by decide +kernel
theorem dL_prime_4 : decode cL_prime 4 = .ok (.invokestatic 16, 3) := by decide +kernel
theorem dL_prime_7 : decode cL_prime 7 = .ok (.iadd, 1) := by decide +kernel
theorem dL_prime_8 : decode cL_prime 8 = .ok (.istore_n 1, 1) := by decide +kernel
theorem dL_prime_9 : decode cL_prime 9 = .ok (.iload_n 1, 1) := by decide +kernel
theorem dL_prime_10 : decode cL_prime 10 = .ok (.invokestatic 79, 3) := by decide +kernel
theorem dL_prime_13 : decode cL_prime 13 = .ok (.ifCond .eq 9, 3) := by decide +kernel
theorem dL_prime_16 : decode cL_prime 16 = .ok (.iinc 1 (-1), 3) := by decide +kernel
theorem dL_prime_19 : decode cL_prime 19 = .ok (.goto (-10), 3) := by decide +kernel
theorem dL_prime_22 : decode cL_prime 22 = .ok (.iload_n 1, 1) := by decide +kernel
theorem dL_prime_23 : decode cL_prime 23 = .ok (.ireturn, 1) := by decide +kernel
theorem dL_divided_0 : decode cL_divided 0 = .ok (.iconst 2, 1) := by decide +kernel
theorem dL_divided_1 : decode cL_divided 1 = .ok (.istore_n 1, 1) := by decide +kernel
theorem dL_divided_2 : decode cL_divided 2 = .ok (.iload_n 1, 1) := by decide +kernel
theorem dL_divided_3 : decode cL_divided 3 = .ok (.iload_n 1, 1) := by decide +kernel
theorem dL_divided_4 : decode cL_divided 4 = .ok (.imul, 1) := by decide +kernel
theorem dL_divided_5 : decode cL_divided 5 = .ok (.iload_n 0, 1) := by decide +kernel
theorem dL_divided_6 : decode cL_divided 6 = .ok (.if_icmp .gt 17, 3) := by decide +kernel
theorem dL_divided_9 : decode cL_divided 9 = .ok (.iload_n 0, 1) := by decide +kernel
theorem dL_divided_10 : decode cL_divided 10 = .ok (.iload_n 1, 1) := by decide +kernel
theorem dL_divided_11 : decode cL_divided 11 = .ok (.irem, 1) := by decide +kernel
theorem dL_divided_12 : decode cL_divided 12 = .ok (.ifCond .ne 5, 3) := by decide +kernel
theorem dL_divided_15 : decode cL_divided 15 = .ok (.iconst 1, 1) := by decide +kernel
theorem dL_divided_16 : decode cL_divided 16 = .ok (.ireturn, 1) := by decide +kernel
theorem dL_divided_17 : decode cL_divided 17 = .ok (.iinc 1 1, 3) := by decide +kernel
theorem dL_divided_20 : decode cL_divided 20 = .ok (.goto (-18), 3) := by decide +kernel
theorem dL_divided_23 : decode cL_divided 23 = .ok (.iconst 0, 1) := by decide +kernel
theorem dL_divided_24 : decode cL_divided 24 = .ok (.ireturn, 1) := by decide +kernel
theorem dL_law_0 : decode cL_law 0 = .ok (.new 20, 3) := by decide +kernel
theorem dL_law_3 : decode cL_law 3 = .ok (.dup, 1) := by decide +kernel
theorem dL_law_4 : decode cL_law 4 = .ok (.invokespecial 83, 3) := by decide +kernel
theorem dL_law_7 : decode cL_law 7 = .ok (.astore_n 1, 1) := by decide +kernel
theorem dL_law_8 : decode cL_law 8 = .ok (.bipush 97, 2) := by decide +kernel
theorem dL_law_10 : decode cL_law 10 = .ok (.istore_n 2, 1) := by decide +kernel
theorem dL_law_11 : decode cL_law 11 = .ok (.iconst 0, 1) := by decide +kernel
theorem dL_law_12 : decode cL_law 12 = .ok (.istore_n 3, 1) := by decide +kernel
theorem dL_law_13 : decode cL_law 13 = .ok (.iload_n 3, 1) := by decide +kernel
theorem dL_law_14 : decode cL_law 14 = .ok (.bipush 14, 2) := by decide +kernel
theorem dL_law_16 : decode cL_law 16 = .ok (.if_icmp .ge 303, 3) := by decide +kernel
theorem dL_law_19 : decode cL_law 19 = .ok (.aload_n 0, 1) := by decide +kernel
theorem dL_law_20 : decode cL_law 20 = .ok (.iconst 4, 1) := by decide +kernel
theorem dL_law_21 : decode cL_law 21 = .ok (.iload_n 3, 1) := by decide +kernel
theorem dL_law_22 : decode cL_law 22 = .ok (.imul, 1) := by decide +kernel
theorem dL_law_23 : decode cL_law 23 = .ok (.invokestatic 84, 3) := by decide +kernel
theorem dL_law_26 : decode cL_law 26 = .ok (.istore 4, 2) := by decide +kernel
theorem dL_law_28 : decode cL_law 28 = .ok (.bipush 40, 2) := by decide +kernel
theorem dL_law_30 : decode cL_law 30 = .ok (.newarray .int, 2) := by decide +kernel
theorem dL_law_32 : decode cL_law 32 = .ok (.astore 5, 2) := by decide +kernel
theorem dL_law_34 : decode cL_law 34 = .ok (.bipush 40, 2) := by decide +kernel
theorem dL_law_36 : decode cL_law 36 = .ok (.newarray .int, 2) := by decide +kernel
theorem dL_law_38 : decode cL_law 38 = .ok (.astore 6, 2) := by decide +kernel
theorem dL_law_40 : decode cL_law 40 = .ok (.iload 4, 2) := by decide +kernel
theorem dL_law_42 : decode cL_law 42 = .ok (.invokestatic 88, 3) := by decide +kernel
theorem dL_law_45 : decode cL_law 45 = .ok (.istore 7, 2) := by decide +kernel
theorem dL_law_47 : decode cL_law 47 = .ok (.aload_n 1, 1) := by decide +kernel
theorem dL_law_48 : decode cL_law 48 = .ok (.iload 7, 2) := by decide +kernel
theorem dL_law_50 : decode cL_law 50 = .ok (.invokestatic 91, 3) := by decide +kernel
theorem dL_law_53 : decode cL_law 53 = .ok (.iload_n 2, 1) := by decide +kernel
theorem dL_law_54 : decode cL_law 54 = .ok (.if_icmp .eq 5, 3) := by decide +kernel
theorem dL_law_57 : decode cL_law 57 = .ok (.iconst 0, 1) := by decide +kernel
theorem dL_law_58 : decode cL_law 58 = .ok (.ireturn, 1) := by decide +kernel
theorem dL_law_59 : decode cL_law 59 = .ok (.iload 7, 2) := by decide +kernel
theorem dL_law_61 : decode cL_law 61 = .ok (.istore_n 2, 1) := by decide +kernel
theorem dL_law_62 : decode cL_law 62 = .ok (.iload 4, 2) := by decide +kernel
theorem dL_law_64 : decode cL_law 64 = .ok (.bipush 6, 2) := by decide +kernel
theorem dL_law_66 : decode cL_law 66 = .ok (.ishr, 1) := by decide +kernel
theorem dL_law_67 : decode cL_law 67 = .ok (.iconst 4, 1) := by decide +kernel
theorem dL_law_68 : decode cL_law 68 = .ok (.invokestatic 16, 3) := by decide +kernel
theorem dL_law_71 : decode cL_law 71 = .ok (.istore 8, 2) := by decide +kernel
theorem dL_law_73 : decode cL_law 73 = .ok (.iload 4, 2) := by decide +kernel
theorem dL_law_75 : decode cL_law 75 = .ok (.bipush 8, 2) := by decide +kernel
theorem dL_law_77 : decode cL_law 77 = .ok (.ishr, 1) := by decide +kernel
theorem dL_law_78 : decode cL_law 78 = .ok (.iconst 2, 1) := by decide +kernel
theorem dL_law_79 : decode cL_law 79 = .ok (.invokestatic 16, 3) := by decide +kernel
theorem dL_law_82 : decode cL_law 82 = .ok (.ifCond .ne 7, 3) := by decide +kernel
theorem dL_law_85 : decode cL_law 85 = .ok (.iconst 1, 1) := by decide +kernel
theorem dL_law_86 : decode cL_law 86 = .ok (.goto 4, 3) := by decide +kernel
theorem dL_law_89 : decode cL_law 89 = .ok (.iconst 0, 1) := by decide +kernel
theorem dL_law_90 : decode cL_law 90 = .ok (.istore 9, 2) := by decide +kernel
theorem dL_law_92 : decode cL_law 92 = .ok (.iload 4, 2) := by decide +kernel
theorem dL_law_94 : decode cL_law 94 = .ok (.bipush 9, 2) := by decide +kernel
theorem dL_law_96 : decode cL_law 96 = .ok (.ishr, 1) := by decide +kernel
theorem dL_law_97 : decode cL_law 97 = .ok (.iconst 2, 1) := by decide +kernel
theorem dL_law_98 : decode cL_law 98 = .ok (.invokestatic 16, 3) := by decide +kernel
theorem dL_law_101 : decode cL_law 101 = .ok (.ifCond .ne 7, 3) := by decide +kernel
theorem dL_law_104 : decode cL_law 104 = .ok (.iconst 1, 1) := by decide +kernel
theorem dL_law_105 : decode cL_law 105 = .ok (.goto 4, 3) := by decide +kernel
theorem dL_law_108 : decode cL_law 108 = .ok (.iconst 0, 1) := by decide +kernel
theorem dL_law_109 : decode cL_law 109 = .ok (.istore 10, 2) := by decide +kernel
theorem dL_law_111 : decode cL_law 111 = .ok (.aload_n 1, 1) := by decide +kernel
theorem dL_law_112 : decode cL_law 112 = .ok (.invokevirtual 95, 3) := by decide +kernel
theorem dL_law_115 : decode cL_law 115 = .ok (.pop, 1) := by decide +kernel
theorem dL_law_116 : decode cL_law 116 = .ok (.iload 9, 2) := by decide +kernel
theorem dL_law_118 : decode cL_law 118 = .ok (.ifCond .eq 10, 3) := by decide +kernel
theorem dL_law_121 : decode cL_law 121 = .ok (.aload_n 1, 1) := by decide +kernel
theorem dL_law_122 : decode cL_law 122 = .ok (.bipush 40, 2) := by decide +kernel
theorem dL_law_124 : decode cL_law 124 = .ok (.invokevirtual 19, 3) := by decide +kernel
theorem dL_law_127 : decode cL_law 127 = .ok (.pop, 1) := by decide +kernel
theorem dL_law_128 : decode cL_law 128 = .ok (.aload_n 1, 1) := by decide +kernel
theorem dL_law_129 : decode cL_law 129 = .ok (.aload_n 0, 1) := by decide +kernel
theorem dL_law_130 : decode cL_law 130 = .ok (.iconst 4, 1) := by decide +kernel
theorem dL_law_131 : decode cL_law 131 = .ok (.iload_n 3, 1) := by decide +kernel
theorem dL_law_132 : decode cL_law 132 = .ok (.imul, 1) := by decide +kernel
theorem dL_law_133 : decode cL_law 133 = .ok (.iconst 1, 1) := by decide +kernel
theorem dL_law_134 : decode cL_law 134 = .ok (.iadd, 1) := by decide +kernel
theorem dL_law_135 : decode cL_law 135 = .ok (.invokestatic 84, 3) := by decide +kernel
theorem dL_law_138 : decode cL_law 138 = .ok (.iconst 0, 1) := by decide +kernel
theorem dL_law_139 : decode cL_law 139 = .ok (.aload 5, 2) := by decide +kernel
theorem dL_law_141 : decode cL_law 141 = .ok (.iload_n 2, 1) := by decide +kernel
theorem dL_law_142 : decode cL_law 142 = .ok (.invokestatic 99, 3) := by decide +kernel
theorem dL_law_145 : decode cL_law 145 = .ok (.istore 11, 2) := by decide +kernel
theorem dL_law_147 : decode cL_law 147 = .ok (.aload_n 1, 1) := by decide +kernel
theorem dL_law_148 : decode cL_law 148 = .ok (.iload 10, 2) := by decide +kernel
theorem dL_law_150 : decode cL_law 150 = .ok (.ifCond .eq 8, 3) := by decide +kernel
theorem dL_law_153 : decode cL_law 153 = .ok (.bipush 45, 2) := by decide +kernel
theorem dL_law_155 : decode cL_law 155 = .ok (.goto 5, 3) := by decide +kernel
theorem dL_law_158 : decode cL_law 158 = .ok (.bipush 43, 2) := by decide +kernel
theorem dL_law_160 : decode cL_law 160 = .ok (.invokevirtual 19, 3) := by decide +kernel
theorem dL_law_163 : decode cL_law 163 = .ok (.pop, 1) := by decide +kernel
theorem dL_law_164 : decode cL_law 164 = .ok (.iload 11, 2) := by decide +kernel
theorem dL_law_166 : decode cL_law 166 = .ok (.iconst 1, 1) := by decide +kernel
theorem dL_law_167 : decode cL_law 167 = .ok (.aload_n 1, 1) := by decide +kernel
theorem dL_law_168 : decode cL_law 168 = .ok (.aload_n 0, 1) := by decide +kernel
theorem dL_law_169 : decode cL_law 169 = .ok (.iconst 4, 1) := by decide +kernel
theorem dL_law_170 : decode cL_law 170 = .ok (.iload_n 3, 1) := by decide +kernel
theorem dL_law_171 : decode cL_law 171 = .ok (.imul, 1) := by decide +kernel
theorem dL_law_172 : decode cL_law 172 = .ok (.iconst 2, 1) := by decide +kernel
theorem dL_law_173 : decode cL_law 173 = .ok (.iadd, 1) := by decide +kernel
theorem dL_law_174 : decode cL_law 174 = .ok (.invokestatic 84, 3) := by decide +kernel
theorem dL_law_177 : decode cL_law 177 = .ok (.iload 10, 2) := by decide +kernel
theorem dL_law_179 : decode cL_law 179 = .ok (.aload 5, 2) := by decide +kernel
theorem dL_law_181 : decode cL_law 181 = .ok (.iload_n 2, 1) := by decide +kernel
theorem dL_law_182 : decode cL_law 182 = .ok (.invokestatic 99, 3) := by decide +kernel
theorem dL_law_185 : decode cL_law 185 = .ok (.iadd, 1) := by decide +kernel
theorem dL_law_186 : decode cL_law 186 = .ok (.iadd, 1) := by decide +kernel
theorem dL_law_187 : decode cL_law 187 = .ok (.istore 11, 2) := by decide +kernel
theorem dL_law_189 : decode cL_law 189 = .ok (.aload 6, 2) := by decide +kernel
theorem dL_law_191 : decode cL_law 191 = .ok (.iconst 0, 1) := by decide +kernel
theorem dL_law_192 : decode cL_law 192 = .ok (.iconst 1, 1) := by decide +kernel
theorem dL_law_193 : decode cL_law 193 = .ok (.iastore, 1) := by decide +kernel
theorem dL_law_194 : decode cL_law 194 = .ok (.iload 9, 2) := by decide +kernel
theorem dL_law_196 : decode cL_law 196 = .ok (.ifCond .eq 60, 3) := by decide +kernel
theorem dL_law_199 : decode cL_law 199 = .ok (.aload_n 1, 1) := by decide +kernel
theorem dL_law_200 : decode cL_law 200 = .ok (.bipush 41, 2) := by decide +kernel
theorem dL_law_202 : decode cL_law 202 = .ok (.invokevirtual 19, 3) := by decide +kernel
theorem dL_law_205 : decode cL_law 205 = .ok (.pop, 1) := by decide +kernel
theorem dL_law_206 : decode cL_law 206 = .ok (.aload_n 1, 1) := by decide +kernel
theorem dL_law_207 : decode cL_law 207 = .ok (.bipush 47, 2) := by decide +kernel
theorem dL_law_209 : decode cL_law 209 = .ok (.invokevirtual 19, 3) := by decide +kernel
theorem dL_law_212 : decode cL_law 212 = .ok (.pop, 1) := by decide +kernel
theorem dL_law_213 : decode cL_law 213 = .ok (.aload_n 1, 1) := by decide +kernel
theorem dL_law_214 : decode cL_law 214 = .ok (.bipush 40, 2) := by decide +kernel
theorem dL_law_216 : decode cL_law 216 = .ok (.invokevirtual 19, 3) := by decide +kernel
theorem dL_law_219 : decode cL_law 219 = .ok (.pop, 1) := by decide +kernel
theorem dL_law_220 : decode cL_law 220 = .ok (.aload 6, 2) := by decide +kernel
theorem dL_law_222 : decode cL_law 222 = .ok (.iconst 0, 1) := by decide +kernel
theorem dL_law_223 : decode cL_law 223 = .ok (.iconst 0, 1) := by decide +kernel
theorem dL_law_224 : decode cL_law 224 = .ok (.iastore, 1) := by decide +kernel
theorem dL_law_225 : decode cL_law 225 = .ok (.iload 11, 2) := by decide +kernel
theorem dL_law_227 : decode cL_law 227 = .ok (.iconst 1, 1) := by decide +kernel
theorem dL_law_228 : decode cL_law 228 = .ok (.aload_n 1, 1) := by decide +kernel
theorem dL_law_229 : decode cL_law 229 = .ok (.aload_n 0, 1) := by decide +kernel
theorem dL_law_230 : decode cL_law 230 = .ok (.iconst 4, 1) := by decide +kernel
theorem dL_law_231 : decode cL_law 231 = .ok (.iload_n 3, 1) := by decide +kernel
theorem dL_law_232 : decode cL_law 232 = .ok (.imul, 1) := by decide +kernel
theorem dL_law_233 : decode cL_law 233 = .ok (.iconst 3, 1) := by decide +kernel
theorem dL_law_234 : decode cL_law 234 = .ok (.iadd, 1) := by decide +kernel
theorem dL_law_235 : decode cL_law 235 = .ok (.invokestatic 84, 3) := by decide +kernel
theorem dL_law_238 : decode cL_law 238 = .ok (.iconst 0, 1) := by decide +kernel
theorem dL_law_239 : decode cL_law 239 = .ok (.aload 6, 2) := by decide +kernel
theorem dL_law_241 : decode cL_law 241 = .ok (.iload_n 2, 1) := by decide +kernel
theorem dL_law_242 : decode cL_law 242 = .ok (.invokestatic 99, 3) := by decide +kernel
theorem dL_law_245 : decode cL_law 245 = .ok (.iadd, 1) := by decide +kernel
theorem dL_law_246 : decode cL_law 246 = .ok (.iadd, 1) := by decide +kernel
theorem dL_law_247 : decode cL_law 247 = .ok (.istore 11, 2) := by decide +kernel
theorem dL_law_249 : decode cL_law 249 = .ok (.aload_n 1, 1) := by decide +kernel
theorem dL_law_250 : decode cL_law 250 = .ok (.bipush 41, 2) := by decide +kernel
theorem dL_law_252 : decode cL_law 252 = .ok (.invokevirtual 19, 3) := by decide +kernel
theorem dL_law_255 : decode cL_law 255 = .ok (.pop, 1) := by decide +kernel
theorem dL_law_256 : decode cL_law 256 = .ok (.aload_n 1, 1) := by decide +kernel
theorem dL_law_257 : decode cL_law 257 = .ok (.invokevirtual 103, 3) := by decide +kernel
theorem dL_law_260 : decode cL_law 260 = .ok (.iconst (-1), 1) := by decide +kernel
theorem dL_law_261 : decode cL_law 261 = .ok (.if_icmp .ne 50, 3) := by decide +kernel
theorem dL_law_264 : decode cL_law 264 = .ok (.aload_n 1, 1) := by decide +kernel
theorem dL_law_265 : decode cL_law 265 = .ok (.iload 8, 2) := by decide +kernel
theorem dL_law_267 : decode cL_law 267 = .ok (.invokestatic 106, 3) := by decide +kernel
theorem dL_law_270 : decode cL_law 270 = .ok (.iload 11, 2) := by decide +kernel
theorem dL_law_272 : decode cL_law 272 = .ok (.if_icmp .ne 39, 3) := by decide +kernel
theorem dL_law_275 : decode cL_law 275 = .ok (.aload_n 1, 1) := by decide +kernel
theorem dL_law_276 : decode cL_law 276 = .ok (.iload 8, 2) := by decide +kernel
theorem dL_law_278 : decode cL_law 278 = .ok (.invokevirtual 108, 3) := by decide +kernel
theorem dL_law_281 : decode cL_law 281 = .ok (.iload 11, 2) := by decide +kernel
theorem dL_law_283 : decode cL_law 283 = .ok (.if_icmp .ne 28, 3) := by decide +kernel
theorem dL_law_286 : decode cL_law 286 = .ok (.aload_n 1, 1) := by decide +kernel
theorem dL_law_287 : decode cL_law 287 = .ok (.iload 8, 2) := by decide +kernel
theorem dL_law_289 : decode cL_law 289 = .ok (.invokevirtual 111, 3) := by decide +kernel
theorem dL_law_292 : decode cL_law 292 = .ok (.iload 11, 2) := by decide +kernel
theorem dL_law_294 : decode cL_law 294 = .ok (.if_icmp .gt 17, 3) := by decide +kernel
theorem dL_law_297 : decode cL_law 297 = .ok (.aload_n 1, 1) := by decide +kernel
theorem dL_law_298 : decode cL_law 298 = .ok (.iload 8, 2) := by decide +kernel
theorem dL_law_300 : decode cL_law 300 = .ok (.aload 5, 2) := by decide +kernel
theorem dL_law_302 : decode cL_law 302 = .ok (.aload 6, 2) := by decide +kernel
theorem dL_law_304 : decode cL_law 304 = .ok (.iload_n 2, 1) := by decide +kernel
theorem dL_law_305 : decode cL_law 305 = .ok (.invokestatic 114, 3) := by decide +kernel
theorem dL_law_308 : decode cL_law 308 = .ok (.ifCond .ne 5, 3) := by decide +kernel
theorem dL_law_311 : decode cL_law 311 = .ok (.iconst 0, 1) := by decide +kernel
theorem dL_law_312 : decode cL_law 312 = .ok (.ireturn, 1) := by decide +kernel
theorem dL_law_313 : decode cL_law 313 = .ok (.iinc 3 1, 3) := by decide +kernel
theorem dL_law_316 : decode cL_law 316 = .ok (.goto (-303), 3) := by decide +kernel
theorem dL_law_319 : decode cL_law 319 = .ok (.iconst 1, 1) := by decide +kernel
theorem dL_law_320 : decode cL_law 320 = .ok (.ireturn, 1) := by decide +kernel
