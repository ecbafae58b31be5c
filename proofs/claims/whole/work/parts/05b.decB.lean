theorem dX11_deep_50 : decode cX11_deep 50 = .ok (.iaload, 1) := by decide +kernel
theorem dX11_deep_51 : decode cX11_deep 51 = .ok (.iconst (-1), 1) := by decide +kernel
theorem dX11_deep_52 : decode cX11_deep 52 = .ok (.if_icmp .ne 7, 3) := by decide +kernel
theorem dX11_deep_55 : decode cX11_deep 55 = .ok (.iconst 0, 1) := by decide +kernel
theorem dX11_deep_56 : decode cX11_deep 56 = .ok (.goto 14, 3) := by decide +kernel
theorem dX11_deep_59 : decode cX11_deep 59 = .ok (.aload_n 0, 1) := by decide +kernel
theorem dX11_deep_60 : decode cX11_deep 60 = .ok (.getfield 53, 3) := by decide +kernel
theorem dX11_deep_63 : decode cX11_deep 63 = .ok (.aload_n 0, 1) := by decide +kernel
theorem dX11_deep_64 : decode cX11_deep 64 = .ok (.getfield 50, 3) := by decide +kernel
theorem dX11_deep_67 : decode cX11_deep 67 = .ok (.iload_n 3, 1) := by decide +kernel
theorem dX11_deep_68 : decode cX11_deep 68 = .ok (.iaload, 1) := by decide +kernel
theorem dX11_deep_69 : decode cX11_deep 69 = .ok (.iaload, 1) := by decide +kernel
theorem dX11_deep_70 : decode cX11_deep 70 = .ok (.istore 5, 2) := by decide +kernel
theorem dX11_deep_72 : decode cX11_deep 72 = .ok (.aload_n 0, 1) := by decide +kernel
theorem dX11_deep_73 : decode cX11_deep 73 = .ok (.getfield 53, 3) := by decide +kernel
theorem dX11_deep_76 : decode cX11_deep 76 = .ok (.iload_n 3, 1) := by decide +kernel
theorem dX11_deep_77 : decode cX11_deep 77 = .ok (.iconst 1, 1) := by decide +kernel
theorem dX11_deep_78 : decode cX11_deep 78 = .ok (.iload 4, 2) := by decide +kernel
theorem dX11_deep_80 : decode cX11_deep 80 = .ok (.iload 5, 2) := by decide +kernel
theorem dX11_deep_82 : decode cX11_deep 82 = .ok (.if_icmp .le 8, 3) := by decide +kernel
theorem dX11_deep_85 : decode cX11_deep 85 = .ok (.iload 4, 2) := by decide +kernel
theorem dX11_deep_87 : decode cX11_deep 87 = .ok (.goto 5, 3) := by decide +kernel
theorem dX11_deep_90 : decode cX11_deep 90 = .ok (.iload 5, 2) := by decide +kernel
theorem dX11_deep_92 : decode cX11_deep 92 = .ok (.iadd, 1) := by decide +kernel
theorem dX11_deep_93 : decode cX11_deep 93 = .ok (.iastore, 1) := by decide +kernel
theorem dX11_deep_94 : decode cX11_deep 94 = .ok (.aload_n 0, 1) := by decide +kernel
theorem dX11_deep_95 : decode cX11_deep 95 = .ok (.getfield 53, 3) := by decide +kernel
theorem dX11_deep_98 : decode cX11_deep 98 = .ok (.iload_n 3, 1) := by decide +kernel
theorem dX11_deep_99 : decode cX11_deep 99 = .ok (.iaload, 1) := by decide +kernel
theorem dX11_deep_100 : decode cX11_deep 100 = .ok (.iload_n 2, 1) := by decide +kernel
theorem dX11_deep_101 : decode cX11_deep 101 = .ok (.if_icmp .le 12, 3) := by decide +kernel
theorem dX11_deep_104 : decode cX11_deep 104 = .ok (.aload_n 0, 1) := by decide +kernel
theorem dX11_deep_105 : decode cX11_deep 105 = .ok (.getfield 53, 3) := by decide +kernel
theorem dX11_deep_108 : decode cX11_deep 108 = .ok (.iload_n 3, 1) := by decide +kernel
theorem dX11_deep_109 : decode cX11_deep 109 = .ok (.iaload, 1) := by decide +kernel
theorem dX11_deep_110 : decode cX11_deep 110 = .ok (.goto 4, 3) := by decide +kernel
theorem dX11_deep_113 : decode cX11_deep 113 = .ok (.iload_n 2, 1) := by decide +kernel
theorem dX11_deep_114 : decode cX11_deep 114 = .ok (.istore_n 2, 1) := by decide +kernel
theorem dX11_deep_115 : decode cX11_deep 115 = .ok (.iinc 3 1, 3) := by decide +kernel
theorem dX11_deep_118 : decode cX11_deep 118 = .ok (.goto (-109), 3) := by decide +kernel
theorem dX11_deep_121 : decode cX11_deep 121 = .ok (.iload_n 2, 1) := by decide +kernel
theorem dX11_deep_122 : decode cX11_deep 122 = .ok (.ireturn, 1) := by decide +kernel
theorem dX11_depthOf_0 : decode cX11_depthOf 0 = .ok (.aload_n 0, 1) := by decide +kernel
theorem dX11_depthOf_1 : decode cX11_depthOf 1 = .ok (.iload_n 1, 1) := by decide +kernel
theorem dX11_depthOf_2 : decode cX11_depthOf 2 = .ok (.invokestatic 146, 3) := by decide +kernel
theorem dX11_depthOf_5 : decode cX11_depthOf 5 = .ok (.invokevirtual 66, 3) := by decide +kernel
theorem dX11_depthOf_8 : decode cX11_depthOf 8 = .ok (.ifCond .eq 11, 3) := by decide +kernel
theorem dX11_depthOf_11 : decode cX11_depthOf 11 = .ok (.aload_n 0, 1) := by decide +kernel
theorem dX11_depthOf_12 : decode cX11_depthOf 12 = .ok (.iload_n 1, 1) := by decide +kernel
theorem dX11_depthOf_13 : decode cX11_depthOf 13 = .ok (.invokevirtual 179, 3) := by decide +kernel
theorem dX11_depthOf_16 : decode cX11_depthOf 16 = .ok (.goto 4, 3) := by decide +kernel
theorem dX11_depthOf_19 : decode cX11_depthOf 19 = .ok (.iconst 0, 1) := by decide +kernel
theorem dX11_depthOf_20 : decode cX11_depthOf 20 = .ok (.ireturn, 1) := by decide +kernel
theorem dX11_p_0 : decode cX11_p 0 = .ok (.iload_n 1, 1) := by decide +kernel
theorem dX11_p_1 : decode cX11_p 1 = .ok (.aload_n 0, 1) := by decide +kernel
theorem dX11_p_2 : decode cX11_p 2 = .ok (.getfield 7, 3) := by decide +kernel
theorem dX11_p_5 : decode cX11_p 5 = .ok (.iconst 0, 1) := by decide +kernel
theorem dX11_p_6 : decode cX11_p 6 = .ok (.iaload, 1) := by decide +kernel
theorem dX11_p_7 : decode cX11_p 7 = .ok (.irem, 1) := by decide +kernel
theorem dX11_p_8 : decode cX11_p 8 = .ok (.istore_n 2, 1) := by decide +kernel
theorem dX11_p_9 : decode cX11_p 9 = .ok (.iload_n 2, 1) := by decide +kernel
theorem dX11_p_10 : decode cX11_p 10 = .ok (.ifCond .ge 14, 3) := by decide +kernel
theorem dX11_p_13 : decode cX11_p 13 = .ok (.iload_n 2, 1) := by decide +kernel
theorem dX11_p_14 : decode cX11_p 14 = .ok (.aload_n 0, 1) := by decide +kernel
theorem dX11_p_15 : decode cX11_p 15 = .ok (.getfield 7, 3) := by decide +kernel
theorem dX11_p_18 : decode cX11_p 18 = .ok (.iconst 0, 1) := by decide +kernel
theorem dX11_p_19 : decode cX11_p 19 = .ok (.iaload, 1) := by decide +kernel
theorem dX11_p_20 : decode cX11_p 20 = .ok (.iadd, 1) := by decide +kernel
theorem dX11_p_21 : decode cX11_p 21 = .ok (.goto 4, 3) := by decide +kernel
theorem dX11_p_24 : decode cX11_p 24 = .ok (.iload_n 2, 1) := by decide +kernel
theorem dX11_p_25 : decode cX11_p 25 = .ok (.ireturn, 1) := by decide +kernel
theorem dX11_power_0 : decode cX11_power 0 = .ok (.aload_n 0, 1) := by decide +kernel
theorem dX11_power_1 : decode cX11_power 1 = .ok (.iconst 1, 1) := by decide +kernel
theorem dX11_power_2 : decode cX11_power 2 = .ok (.invokevirtual 182, 3) := by decide +kernel
theorem dX11_power_5 : decode cX11_power 5 = .ok (.istore_n 3, 1) := by decide +kernel
theorem dX11_power_6 : decode cX11_power 6 = .ok (.iconst 0, 1) := by decide +kernel
theorem dX11_power_7 : decode cX11_power 7 = .ok (.istore 4, 2) := by decide +kernel
theorem dX11_power_9 : decode cX11_power 9 = .ok (.iload 4, 2) := by decide +kernel
theorem dX11_power_11 : decode cX11_power 11 = .ok (.iload_n 2, 1) := by decide +kernel
theorem dX11_power_12 : decode cX11_power 12 = .ok (.if_icmp .ge 17, 3) := by decide +kernel
theorem dX11_power_15 : decode cX11_power 15 = .ok (.aload_n 0, 1) := by decide +kernel
theorem dX11_power_16 : decode cX11_power 16 = .ok (.iload_n 3, 1) := by decide +kernel
theorem dX11_power_17 : decode cX11_power 17 = .ok (.iload_n 1, 1) := by decide +kernel
theorem dX11_power_18 : decode cX11_power 18 = .ok (.imul, 1) := by decide +kernel
theorem dX11_power_19 : decode cX11_power 19 = .ok (.invokevirtual 182, 3) := by decide +kernel
theorem dX11_power_22 : decode cX11_power 22 = .ok (.istore_n 3, 1) := by decide +kernel
theorem dX11_power_23 : decode cX11_power 23 = .ok (.iinc 4 1, 3) := by decide +kernel
theorem dX11_power_26 : decode cX11_power 26 = .ok (.goto (-17), 3) := by decide +kernel
theorem dX11_power_29 : decode cX11_power 29 = .ok (.iload_n 3, 1) := by decide +kernel
theorem dX11_power_30 : decode cX11_power 30 = .ok (.ireturn, 1) := by decide +kernel
theorem dX11_inverse_0 : decode cX11_inverse 0 = .ok (.iconst 1, 1) := by decide +kernel
theorem dX11_inverse_1 : decode cX11_inverse 1 = .ok (.istore_n 2, 1) := by decide +kernel
theorem dX11_inverse_2 : decode cX11_inverse 2 = .ok (.aload_n 0, 1) := by decide +kernel
theorem dX11_inverse_3 : decode cX11_inverse 3 = .ok (.iload_n 2, 1) := by decide +kernel
theorem dX11_inverse_4 : decode cX11_inverse 4 = .ok (.iload_n 1, 1) := by decide +kernel
theorem dX11_inverse_5 : decode cX11_inverse 5 = .ok (.imul, 1) := by decide +kernel
theorem dX11_inverse_6 : decode cX11_inverse 6 = .ok (.invokevirtual 182, 3) := by decide +kernel
theorem dX11_inverse_9 : decode cX11_inverse 9 = .ok (.aload_n 0, 1) := by decide +kernel
theorem dX11_inverse_10 : decode cX11_inverse 10 = .ok (.iconst 1, 1) := by decide +kernel
theorem dX11_inverse_11 : decode cX11_inverse 11 = .ok (.invokevirtual 182, 3) := by decide +kernel
theorem dX11_inverse_14 : decode cX11_inverse 14 = .ok (.if_icmp .eq 9, 3) := by decide +kernel
theorem dX11_inverse_17 : decode cX11_inverse 17 = .ok (.iinc 2 1, 3) := by decide +kernel
theorem dX11_inverse_20 : decode cX11_inverse 20 = .ok (.goto (-18), 3) := by decide +kernel
theorem dX11_inverse_23 : decode cX11_inverse 23 = .ok (.iload_n 2, 1) := by decide +kernel
theorem dX11_inverse_24 : decode cX11_inverse 24 = .ok (.ireturn, 1) := by decide +kernel
theorem dX11_reckons_0 : decode cX11_reckons 0 = .ok (.aload_n 0, 1) := by decide +kernel
theorem dX11_reckons_1 : decode cX11_reckons 1 = .ok (.iload_n 1, 1) := by decide +kernel
theorem dX11_reckons_2 : decode cX11_reckons 2 = .ok (.iload_n 2, 1) := by decide +kernel
theorem dX11_reckons_3 : decode cX11_reckons 3 = .ok (.invokevirtual 159, 3) := by decide +kernel
theorem dX11_reckons_6 : decode cX11_reckons 6 = .ok (.istore_n 3, 1) := by decide +kernel
theorem dX11_reckons_7 : decode cX11_reckons 7 = .ok (.aload_n 0, 1) := by decide +kernel
theorem dX11_reckons_8 : decode cX11_reckons 8 = .ok (.iload_n 1, 1) := by decide +kernel
theorem dX11_reckons_9 : decode cX11_reckons 9 = .ok (.iload_n 2, 1) := by decide +kernel
theorem dX11_reckons_10 : decode cX11_reckons 10 = .ok (.invokevirtual 163, 3) := by decide +kernel
theorem dX11_reckons_13 : decode cX11_reckons 13 = .ok (.istore 4, 2) := by decide +kernel
theorem dX11_reckons_15 : decode cX11_reckons 15 = .ok (.aload_n 0, 1) := by decide +kernel
theorem dX11_reckons_16 : decode cX11_reckons 16 = .ok (.getfield 47, 3) := by decide +kernel
theorem dX11_reckons_19 : decode cX11_reckons 19 = .ok (.iload_n 2, 1) := by decide +kernel
theorem dX11_reckons_20 : decode cX11_reckons 20 = .ok (.iaload, 1) := by decide +kernel
theorem dX11_reckons_21 : decode cX11_reckons 21 = .ok (.iconst (-1), 1) := by decide +kernel
theorem dX11_reckons_22 : decode cX11_reckons 22 = .ok (.if_icmp .ne 7, 3) := by decide +kernel
theorem dX11_reckons_25 : decode cX11_reckons 25 = .ok (.iconst 0, 1) := by decide +kernel
theorem dX11_reckons_26 : decode cX11_reckons 26 = .ok (.goto 14, 3) := by decide +kernel
theorem dX11_reckons_29 : decode cX11_reckons 29 = .ok (.aload_n 0, 1) := by decide +kernel
theorem dX11_reckons_30 : decode cX11_reckons 30 = .ok (.getfield 41, 3) := by decide +kernel
theorem dX11_reckons_33 : decode cX11_reckons 33 = .ok (.aload_n 0, 1) := by decide +kernel
theorem dX11_reckons_34 : decode cX11_reckons 34 = .ok (.getfield 47, 3) := by decide +kernel
theorem dX11_reckons_37 : decode cX11_reckons 37 = .ok (.iload_n 2, 1) := by decide +kernel
theorem dX11_reckons_38 : decode cX11_reckons 38 = .ok (.iaload, 1) := by decide +kernel
theorem dX11_reckons_39 : decode cX11_reckons 39 = .ok (.iaload, 1) := by decide +kernel
theorem dX11_reckons_40 : decode cX11_reckons 40 = .ok (.istore 5, 2) := by decide +kernel
theorem dX11_reckons_42 : decode cX11_reckons 42 = .ok (.aload_n 0, 1) := by decide +kernel
theorem dX11_reckons_43 : decode cX11_reckons 43 = .ok (.getfield 47, 3) := by decide +kernel
theorem dX11_reckons_46 : decode cX11_reckons 46 = .ok (.iload_n 2, 1) := by decide +kernel
theorem dX11_reckons_47 : decode cX11_reckons 47 = .ok (.iaload, 1) := by decide +kernel
theorem dX11_reckons_48 : decode cX11_reckons 48 = .ok (.iconst (-1), 1) := by decide +kernel
theorem dX11_reckons_49 : decode cX11_reckons 49 = .ok (.if_icmp .ne 7, 3) := by decide +kernel
theorem dX11_reckons_52 : decode cX11_reckons 52 = .ok (.iconst 0, 1) := by decide +kernel
theorem dX11_reckons_53 : decode cX11_reckons 53 = .ok (.goto 14, 3) := by decide +kernel
theorem dX11_reckons_56 : decode cX11_reckons 56 = .ok (.aload_n 0, 1) := by decide +kernel
theorem dX11_reckons_57 : decode cX11_reckons 57 = .ok (.getfield 44, 3) := by decide +kernel
theorem dX11_reckons_60 : decode cX11_reckons 60 = .ok (.aload_n 0, 1) := by decide +kernel
theorem dX11_reckons_61 : decode cX11_reckons 61 = .ok (.getfield 47, 3) := by decide +kernel
theorem dX11_reckons_64 : decode cX11_reckons 64 = .ok (.iload_n 2, 1) := by decide +kernel
theorem dX11_reckons_65 : decode cX11_reckons 65 = .ok (.iaload, 1) := by decide +kernel
theorem dX11_reckons_66 : decode cX11_reckons 66 = .ok (.iaload, 1) := by decide +kernel
theorem dX11_reckons_67 : decode cX11_reckons 67 = .ok (.istore 6, 2) := by decide +kernel
theorem dX11_reckons_69 : decode cX11_reckons 69 = .ok (.aload_n 0, 1) := by decide +kernel
theorem dX11_reckons_70 : decode cX11_reckons 70 = .ok (.getfield 50, 3) := by decide +kernel
theorem dX11_reckons_73 : decode cX11_reckons 73 = .ok (.iload_n 2, 1) := by decide +kernel
theorem dX11_reckons_74 : decode cX11_reckons 74 = .ok (.iaload, 1) := by decide +kernel
theorem dX11_reckons_75 : decode cX11_reckons 75 = .ok (.iconst (-1), 1) := by decide +kernel
theorem dX11_reckons_76 : decode cX11_reckons 76 = .ok (.if_icmp .ne 7, 3) := by decide +kernel
theorem dX11_reckons_79 : decode cX11_reckons 79 = .ok (.iconst 0, 1) := by decide +kernel
theorem dX11_reckons_80 : decode cX11_reckons 80 = .ok (.goto 14, 3) := by decide +kernel
theorem dX11_reckons_83 : decode cX11_reckons 83 = .ok (.aload_n 0, 1) := by decide +kernel
theorem dX11_reckons_84 : decode cX11_reckons 84 = .ok (.getfield 41, 3) := by decide +kernel
theorem dX11_reckons_87 : decode cX11_reckons 87 = .ok (.aload_n 0, 1) := by decide +kernel
theorem dX11_reckons_88 : decode cX11_reckons 88 = .ok (.getfield 50, 3) := by decide +kernel
theorem dX11_reckons_91 : decode cX11_reckons 91 = .ok (.iload_n 2, 1) := by decide +kernel
theorem dX11_reckons_92 : decode cX11_reckons 92 = .ok (.iaload, 1) := by decide +kernel
theorem dX11_reckons_93 : decode cX11_reckons 93 = .ok (.iaload, 1) := by decide +kernel
theorem dX11_reckons_94 : decode cX11_reckons 94 = .ok (.istore 7, 2) := by decide +kernel
theorem dX11_reckons_96 : decode cX11_reckons 96 = .ok (.aload_n 0, 1) := by decide +kernel
theorem dX11_reckons_97 : decode cX11_reckons 97 = .ok (.getfield 50, 3) := by decide +kernel
theorem dX11_reckons_100 : decode cX11_reckons 100 = .ok (.iload_n 2, 1) := by decide +kernel
theorem dX11_reckons_101 : decode cX11_reckons 101 = .ok (.iaload, 1) := by decide +kernel
theorem dX11_reckons_102 : decode cX11_reckons 102 = .ok (.iconst (-1), 1) := by decide +kernel
theorem dX11_reckons_103 : decode cX11_reckons 103 = .ok (.if_icmp .ne 7, 3) := by decide +kernel
theorem dX11_reckons_106 : decode cX11_reckons 106 = .ok (.iconst 0, 1) := by decide +kernel
theorem dX11_reckons_107 : decode cX11_reckons 107 = .ok (.goto 14, 3) := by decide +kernel
theorem dX11_reckons_110 : decode cX11_reckons 110 = .ok (.aload_n 0, 1) := by decide +kernel
theorem dX11_reckons_111 : decode cX11_reckons 111 = .ok (.getfield 44, 3) := by decide +kernel
theorem dX11_reckons_114 : decode cX11_reckons 114 = .ok (.aload_n 0, 1) := by decide +kernel
theorem dX11_reckons_115 : decode cX11_reckons 115 = .ok (.getfield 50, 3) := by decide +kernel
theorem dX11_reckons_118 : decode cX11_reckons 118 = .ok (.iload_n 2, 1) := by decide +kernel
theorem dX11_reckons_119 : decode cX11_reckons 119 = .ok (.iaload, 1) := by decide +kernel
theorem dX11_reckons_120 : decode cX11_reckons 120 = .ok (.iaload, 1) := by decide +kernel
theorem dX11_reckons_121 : decode cX11_reckons 121 = .ok (.istore 8, 2) := by decide +kernel
theorem dX11_reckons_123 : decode cX11_reckons 123 = .ok (.iload_n 3, 1) := by decide +kernel
theorem dX11_reckons_124 : decode cX11_reckons 124 = .ok (.ifCond .ne 25, 3) := by decide +kernel
theorem dX11_reckons_127 : decode cX11_reckons 127 = .ok (.aload_n 0, 1) := by decide +kernel
theorem dX11_reckons_128 : decode cX11_reckons 128 = .ok (.getfield 41, 3) := by decide +kernel
theorem dX11_reckons_131 : decode cX11_reckons 131 = .ok (.iload_n 2, 1) := by decide +kernel
theorem dX11_reckons_132 : decode cX11_reckons 132 = .ok (.aload_n 0, 1) := by decide +kernel
theorem dX11_reckons_133 : decode cX11_reckons 133 = .ok (.iload 4, 2) := by decide +kernel
theorem dX11_reckons_135 : decode cX11_reckons 135 = .ok (.invokevirtual 182, 3) := by decide +kernel
theorem dX11_reckons_138 : decode cX11_reckons 138 = .ok (.iastore, 1) := by decide +kernel
theorem dX11_reckons_139 : decode cX11_reckons 139 = .ok (.aload_n 0, 1) := by decide +kernel
theorem dX11_reckons_140 : decode cX11_reckons 140 = .ok (.getfield 44, 3) := by decide +kernel
theorem dX11_reckons_143 : decode cX11_reckons 143 = .ok (.iload_n 2, 1) := by decide +kernel
theorem dX11_reckons_144 : decode cX11_reckons 144 = .ok (.iconst 0, 1) := by decide +kernel
theorem dX11_reckons_145 : decode cX11_reckons 145 = .ok (.iastore, 1) := by decide +kernel
theorem dX11_reckons_146 : decode cX11_reckons 146 = .ok (.goto 423, 3) := by decide +kernel
theorem dX11_reckons_149 : decode cX11_reckons 149 = .ok (.iload_n 3, 1) := by decide +kernel
theorem dX11_reckons_150 : decode cX11_reckons 150 = .ok (.iconst 2, 1) := by decide +kernel
theorem dX11_reckons_151 : decode cX11_reckons 151 = .ok (.if_icmp .ne 32, 3) := by decide +kernel
theorem dX11_reckons_154 : decode cX11_reckons 154 = .ok (.aload_n 0, 1) := by decide +kernel
theorem dX11_reckons_155 : decode cX11_reckons 155 = .ok (.getfield 41, 3) := by decide +kernel
theorem dX11_reckons_158 : decode cX11_reckons 158 = .ok (.iload_n 2, 1) := by decide +kernel
theorem dX11_reckons_159 : decode cX11_reckons 159 = .ok (.aload_n 0, 1) := by decide +kernel
theorem dX11_reckons_160 : decode cX11_reckons 160 = .ok (.iload 5, 2) := by decide +kernel
theorem dX11_reckons_162 : decode cX11_reckons 162 = .ok (.ineg, 1) := by decide +kernel
theorem dX11_reckons_163 : decode cX11_reckons 163 = .ok (.invokevirtual 182, 3) := by decide +kernel
theorem dX11_reckons_166 : decode cX11_reckons 166 = .ok (.iastore, 1) := by decide +kernel
theorem dX11_reckons_167 : decode cX11_reckons 167 = .ok (.aload_n 0, 1) := by decide +kernel
theorem dX11_reckons_168 : decode cX11_reckons 168 = .ok (.getfield 44, 3) := by decide +kernel
theorem dX11_reckons_171 : decode cX11_reckons 171 = .ok (.iload_n 2, 1) := by decide +kernel
theorem dX11_reckons_172 : decode cX11_reckons 172 = .ok (.aload_n 0, 1) := by decide +kernel
theorem dX11_reckons_173 : decode cX11_reckons 173 = .ok (.iload 6, 2) := by decide +kernel
theorem dX11_reckons_175 : decode cX11_reckons 175 = .ok (.ineg, 1) := by decide +kernel
theorem dX11_reckons_176 : decode cX11_reckons 176 = .ok (.invokevirtual 182, 3) := by decide +kernel
theorem dX11_reckons_179 : decode cX11_reckons 179 = .ok (.iastore, 1) := by decide +kernel
theorem dX11_reckons_180 : decode cX11_reckons 180 = .ok (.goto 389, 3) := by decide +kernel
theorem dX11_reckons_183 : decode cX11_reckons 183 = .ok (.iload_n 3, 1) := by decide +kernel
theorem dX11_reckons_184 : decode cX11_reckons 184 = .ok (.iconst 3, 1) := by decide +kernel
theorem dX11_reckons_185 : decode cX11_reckons 185 = .ok (.if_icmp .ne 36, 3) := by decide +kernel
theorem dX11_reckons_188 : decode cX11_reckons 188 = .ok (.aload_n 0, 1) := by decide +kernel
theorem dX11_reckons_189 : decode cX11_reckons 189 = .ok (.getfield 41, 3) := by decide +kernel
theorem dX11_reckons_192 : decode cX11_reckons 192 = .ok (.iload_n 2, 1) := by decide +kernel
theorem dX11_reckons_193 : decode cX11_reckons 193 = .ok (.aload_n 0, 1) := by decide +kernel
theorem dX11_reckons_194 : decode cX11_reckons 194 = .ok (.iload 5, 2) := by decide +kernel
theorem dX11_reckons_196 : decode cX11_reckons 196 = .ok (.iload 7, 2) := by decide +kernel
theorem dX11_reckons_198 : decode cX11_reckons 198 = .ok (.iadd, 1) := by decide +kernel
theorem dX11_reckons_199 : decode cX11_reckons 199 = .ok (.invokevirtual 182, 3) := by decide +kernel
theorem dX11_reckons_202 : decode cX11_reckons 202 = .ok (.iastore, 1) := by decide +kernel
theorem dX11_reckons_203 : decode cX11_reckons 203 = .ok (.aload_n 0, 1) := by decide +kernel
theorem dX11_reckons_204 : decode cX11_reckons 204 = .ok (.getfield 44, 3) := by decide +kernel
theorem dX11_reckons_207 : decode cX11_reckons 207 = .ok (.iload_n 2, 1) := by decide +kernel
theorem dX11_reckons_208 : decode cX11_reckons 208 = .ok (.aload_n 0, 1) := by decide +kernel
theorem dX11_reckons_209 : decode cX11_reckons 209 = .ok (.iload 6, 2) := by decide +kernel
theorem dX11_reckons_211 : decode cX11_reckons 211 = .ok (.iload 8, 2) := by decide +kernel
theorem dX11_reckons_213 : decode cX11_reckons 213 = .ok (.iadd, 1) := by decide +kernel
theorem dX11_reckons_214 : decode cX11_reckons 214 = .ok (.invokevirtual 182, 3) := by decide +kernel
theorem dX11_reckons_217 : decode cX11_reckons 217 = .ok (.iastore, 1) := by decide +kernel
theorem dX11_reckons_218 : decode cX11_reckons 218 = .ok (.goto 351, 3) := by decide +kernel
theorem dX11_reckons_221 : decode cX11_reckons 221 = .ok (.iload_n 3, 1) := by decide +kernel
theorem dX11_reckons_222 : decode cX11_reckons 222 = .ok (.iconst 4, 1) := by decide +kernel
theorem dX11_reckons_223 : decode cX11_reckons 223 = .ok (.if_icmp .ne 36, 3) := by decide +kernel
theorem dX11_reckons_226 : decode cX11_reckons 226 = .ok (.aload_n 0, 1) := by decide +kernel
theorem dX11_reckons_227 : decode cX11_reckons 227 = .ok (.getfield 41, 3) := by decide +kernel
theorem dX11_reckons_230 : decode cX11_reckons 230 = .ok (.iload_n 2, 1) := by decide +kernel
theorem dX11_reckons_231 : decode cX11_reckons 231 = .ok (.aload_n 0, 1) := by decide +kernel
theorem dX11_reckons_232 : decode cX11_reckons 232 = .ok (.iload 5, 2) := by decide +kernel
theorem dX11_reckons_234 : decode cX11_reckons 234 = .ok (.iload 7, 2) := by decide +kernel
theorem dX11_reckons_236 : decode cX11_reckons 236 = .ok (.isub, 1) := by decide +kernel
theorem dX11_reckons_237 : decode cX11_reckons 237 = .ok (.invokevirtual 182, 3) := by decide +kernel
theorem dX11_reckons_240 : decode cX11_reckons 240 = .ok (.iastore, 1) := by decide +kernel
theorem dX11_reckons_241 : decode cX11_reckons 241 = .ok (.aload_n 0, 1) := by decide +kernel
theorem dX11_reckons_242 : decode cX11_reckons 242 = .ok (.getfield 44, 3) := by decide +kernel
theorem dX11_reckons_245 : decode cX11_reckons 245 = .ok (.iload_n 2, 1) := by decide +kernel
theorem dX11_reckons_246 : decode cX11_reckons 246 = .ok (.aload_n 0, 1) := by decide +kernel
theorem dX11_reckons_247 : decode cX11_reckons 247 = .ok (.iload 6, 2) := by decide +kernel
theorem dX11_reckons_249 : decode cX11_reckons 249 = .ok (.iload 8, 2) := by decide +kernel
theorem dX11_reckons_251 : decode cX11_reckons 251 = .ok (.isub, 1) := by decide +kernel
theorem dX11_reckons_252 : decode cX11_reckons 252 = .ok (.invokevirtual 182, 3) := by decide +kernel
theorem dX11_reckons_255 : decode cX11_reckons 255 = .ok (.iastore, 1) := by decide +kernel
theorem dX11_reckons_256 : decode cX11_reckons 256 = .ok (.goto 313, 3) := by decide +kernel
theorem dX11_reckons_259 : decode cX11_reckons 259 = .ok (.iload_n 3, 1) := by decide +kernel
theorem dX11_reckons_260 : decode cX11_reckons 260 = .ok (.iconst 5, 1) := by decide +kernel
theorem dX11_reckons_261 : decode cX11_reckons 261 = .ok (.if_icmp .ne 42, 3) := by decide +kernel
theorem dX11_reckons_264 : decode cX11_reckons 264 = .ok (.aload_n 0, 1) := by decide +kernel
theorem dX11_reckons_265 : decode cX11_reckons 265 = .ok (.getfield 41, 3) := by decide +kernel
theorem dX11_reckons_268 : decode cX11_reckons 268 = .ok (.iload_n 2, 1) := by decide +kernel
theorem dX11_reckons_269 : decode cX11_reckons 269 = .ok (.aload_n 0, 1) := by decide +kernel
theorem dX11_reckons_270 : decode cX11_reckons 270 = .ok (.iload 5, 2) := by decide +kernel
theorem dX11_reckons_272 : decode cX11_reckons 272 = .ok (.iload 7, 2) := by decide +kernel
theorem dX11_reckons_274 : decode cX11_reckons 274 = .ok (.imul, 1) := by decide +kernel
theorem dX11_reckons_275 : decode cX11_reckons 275 = .ok (.invokevirtual 182, 3) := by decide +kernel
theorem dX11_reckons_278 : decode cX11_reckons 278 = .ok (.iastore, 1) := by decide +kernel
theorem dX11_reckons_279 : decode cX11_reckons 279 = .ok (.aload_n 0, 1) := by decide +kernel
theorem dX11_reckons_280 : decode cX11_reckons 280 = .ok (.getfield 44, 3) := by decide +kernel
theorem dX11_reckons_283 : decode cX11_reckons 283 = .ok (.iload_n 2, 1) := by decide +kernel
theorem dX11_reckons_284 : decode cX11_reckons 284 = .ok (.aload_n 0, 1) := by decide +kernel
theorem dX11_reckons_285 : decode cX11_reckons 285 = .ok (.iload 6, 2) := by decide +kernel
theorem dX11_reckons_287 : decode cX11_reckons 287 = .ok (.iload 7, 2) := by decide +kernel
theorem dX11_reckons_289 : decode cX11_reckons 289 = .ok (.imul, 1) := by decide +kernel
theorem dX11_reckons_290 : decode cX11_reckons 290 = .ok (.iload 5, 2) := by decide +kernel
theorem dX11_reckons_292 : decode cX11_reckons 292 = .ok (.iload 8, 2) := by decide +kernel
theorem dX11_reckons_294 : decode cX11_reckons 294 = .ok (.imul, 1) := by decide +kernel
theorem dX11_reckons_295 : decode cX11_reckons 295 = .ok (.iadd, 1) := by decide +kernel
theorem dX11_reckons_296 : decode cX11_reckons 296 = .ok (.invokevirtual 182, 3) := by decide +kernel
theorem dX11_reckons_299 : decode cX11_reckons 299 = .ok (.iastore, 1) := by decide +kernel
theorem dX11_reckons_300 : decode cX11_reckons 300 = .ok (.goto 269, 3) := by decide +kernel
theorem dX11_reckons_303 : decode cX11_reckons 303 = .ok (.iload_n 3, 1) := by decide +kernel
theorem dX11_reckons_304 : decode cX11_reckons 304 = .ok (.bipush 6, 2) := by decide +kernel
theorem dX11_reckons_306 : decode cX11_reckons 306 = .ok (.if_icmp .ne 94, 3) := by decide +kernel
theorem dX11_reckons_309 : decode cX11_reckons 309 = .ok (.aload_n 0, 1) := by decide +kernel
theorem dX11_reckons_310 : decode cX11_reckons 310 = .ok (.aload_n 0, 1) := by decide +kernel
theorem dX11_reckons_311 : decode cX11_reckons 311 = .ok (.getfield 185, 3) := by decide +kernel
theorem dX11_reckons_314 : decode cX11_reckons 314 = .ok (.ifCond .ne 8, 3) := by decide +kernel
theorem dX11_reckons_317 : decode cX11_reckons 317 = .ok (.iload 7, 2) := by decide +kernel
theorem dX11_reckons_319 : decode cX11_reckons 319 = .ok (.ifCond .ne 7, 3) := by decide +kernel
theorem dX11_reckons_322 : decode cX11_reckons 322 = .ok (.iconst 1, 1) := by decide +kernel
theorem dX11_reckons_323 : decode cX11_reckons 323 = .ok (.goto 4, 3) := by decide +kernel
theorem dX11_reckons_326 : decode cX11_reckons 326 = .ok (.iconst 0, 1) := by decide +kernel
theorem dX11_reckons_327 : decode cX11_reckons 327 = .ok (.putfield 185, 3) := by decide +kernel
theorem dX11_reckons_330 : decode cX11_reckons 330 = .ok (.iload 7, 2) := by decide +kernel
theorem dX11_reckons_332 : decode cX11_reckons 332 = .ok (.ifCond .ne 7, 3) := by decide +kernel
theorem dX11_reckons_335 : decode cX11_reckons 335 = .ok (.iconst 0, 1) := by decide +kernel
theorem dX11_reckons_336 : decode cX11_reckons 336 = .ok (.goto 9, 3) := by decide +kernel
theorem dX11_reckons_339 : decode cX11_reckons 339 = .ok (.aload_n 0, 1) := by decide +kernel
theorem dX11_reckons_340 : decode cX11_reckons 340 = .ok (.iload 7, 2) := by decide +kernel
theorem dX11_reckons_342 : decode cX11_reckons 342 = .ok (.invokevirtual 188, 3) := by decide +kernel
theorem dX11_reckons_345 : decode cX11_reckons 345 = .ok (.istore 9, 2) := by decide +kernel
theorem dX11_reckons_347 : decode cX11_reckons 347 = .ok (.aload_n 0, 1) := by decide +kernel
theorem dX11_reckons_348 : decode cX11_reckons 348 = .ok (.getfield 41, 3) := by decide +kernel
theorem dX11_reckons_351 : decode cX11_reckons 351 = .ok (.iload_n 2, 1) := by decide +kernel
theorem dX11_reckons_352 : decode cX11_reckons 352 = .ok (.aload_n 0, 1) := by decide +kernel
theorem dX11_reckons_353 : decode cX11_reckons 353 = .ok (.iload 5, 2) := by decide +kernel
theorem dX11_reckons_355 : decode cX11_reckons 355 = .ok (.iload 9, 2) := by decide +kernel
theorem dX11_reckons_357 : decode cX11_reckons 357 = .ok (.imul, 1) := by decide +kernel
theorem dX11_reckons_358 : decode cX11_reckons 358 = .ok (.invokevirtual 182, 3) := by decide +kernel
theorem dX11_reckons_361 : decode cX11_reckons 361 = .ok (.iastore, 1) := by decide +kernel
theorem dX11_reckons_362 : decode cX11_reckons 362 = .ok (.aload_n 0, 1) := by decide +kernel
theorem dX11_reckons_363 : decode cX11_reckons 363 = .ok (.getfield 44, 3) := by decide +kernel
theorem dX11_reckons_366 : decode cX11_reckons 366 = .ok (.iload_n 2, 1) := by decide +kernel
theorem dX11_reckons_367 : decode cX11_reckons 367 = .ok (.aload_n 0, 1) := by decide +kernel
theorem dX11_reckons_368 : decode cX11_reckons 368 = .ok (.aload_n 0, 1) := by decide +kernel
theorem dX11_reckons_369 : decode cX11_reckons 369 = .ok (.iload 6, 2) := by decide +kernel
theorem dX11_reckons_371 : decode cX11_reckons 371 = .ok (.iload 7, 2) := by decide +kernel
theorem dX11_reckons_373 : decode cX11_reckons 373 = .ok (.imul, 1) := by decide +kernel
theorem dX11_reckons_374 : decode cX11_reckons 374 = .ok (.iload 5, 2) := by decide +kernel
theorem dX11_reckons_376 : decode cX11_reckons 376 = .ok (.iload 8, 2) := by decide +kernel
theorem dX11_reckons_378 : decode cX11_reckons 378 = .ok (.imul, 1) := by decide +kernel
theorem dX11_reckons_379 : decode cX11_reckons 379 = .ok (.isub, 1) := by decide +kernel
theorem dX11_reckons_380 : decode cX11_reckons 380 = .ok (.invokevirtual 182, 3) := by decide +kernel
theorem dX11_reckons_383 : decode cX11_reckons 383 = .ok (.aload_n 0, 1) := by decide +kernel
theorem dX11_reckons_384 : decode cX11_reckons 384 = .ok (.iload 9, 2) := by decide +kernel
theorem dX11_reckons_386 : decode cX11_reckons 386 = .ok (.iload 9, 2) := by decide +kernel
theorem dX11_reckons_388 : decode cX11_reckons 388 = .ok (.imul, 1) := by decide +kernel
theorem dX11_reckons_389 : decode cX11_reckons 389 = .ok (.invokevirtual 182, 3) := by decide +kernel
theorem dX11_reckons_392 : decode cX11_reckons 392 = .ok (.imul, 1) := by decide +kernel
theorem dX11_reckons_393 : decode cX11_reckons 393 = .ok (.invokevirtual 182, 3) := by decide +kernel
theorem dX11_reckons_396 : decode cX11_reckons 396 = .ok (.iastore, 1) := by decide +kernel
theorem dX11_reckons_397 : decode cX11_reckons 397 = .ok (.goto 172, 3) := by decide +kernel
theorem dX11_reckons_400 : decode cX11_reckons 400 = .ok (.iload_n 3, 1) := by decide +kernel
theorem dX11_reckons_401 : decode cX11_reckons 401 = .ok (.bipush 7, 2) := by decide +kernel
theorem dX11_reckons_403 : decode cX11_reckons 403 = .ok (.if_icmp .ne 59, 3) := by decide +kernel
theorem dX11_reckons_406 : decode cX11_reckons 406 = .ok (.aload_n 0, 1) := by decide +kernel
theorem dX11_reckons_407 : decode cX11_reckons 407 = .ok (.getfield 41, 3) := by decide +kernel
theorem dX11_reckons_410 : decode cX11_reckons 410 = .ok (.iload_n 2, 1) := by decide +kernel
theorem dX11_reckons_411 : decode cX11_reckons 411 = .ok (.aload_n 0, 1) := by decide +kernel
theorem dX11_reckons_412 : decode cX11_reckons 412 = .ok (.iload 5, 2) := by decide +kernel
theorem dX11_reckons_414 : decode cX11_reckons 414 = .ok (.iload 4, 2) := by decide +kernel
theorem dX11_reckons_416 : decode cX11_reckons 416 = .ok (.invokevirtual 191, 3) := by decide +kernel
theorem dX11_reckons_419 : decode cX11_reckons 419 = .ok (.iastore, 1) := by decide +kernel
theorem dX11_reckons_420 : decode cX11_reckons 420 = .ok (.aload_n 0, 1) := by decide +kernel
theorem dX11_reckons_421 : decode cX11_reckons 421 = .ok (.getfield 44, 3) := by decide +kernel
theorem dX11_reckons_424 : decode cX11_reckons 424 = .ok (.iload_n 2, 1) := by decide +kernel
theorem dX11_reckons_425 : decode cX11_reckons 425 = .ok (.iload 4, 2) := by decide +kernel
theorem dX11_reckons_427 : decode cX11_reckons 427 = .ok (.ifCond .ne 7, 3) := by decide +kernel
theorem dX11_reckons_430 : decode cX11_reckons 430 = .ok (.iconst 0, 1) := by decide +kernel
theorem dX11_reckons_431 : decode cX11_reckons 431 = .ok (.goto 27, 3) := by decide +kernel
theorem dX11_reckons_434 : decode cX11_reckons 434 = .ok (.aload_n 0, 1) := by decide +kernel
theorem dX11_reckons_435 : decode cX11_reckons 435 = .ok (.aload_n 0, 1) := by decide +kernel
theorem dX11_reckons_436 : decode cX11_reckons 436 = .ok (.iload 4, 2) := by decide +kernel
theorem dX11_reckons_438 : decode cX11_reckons 438 = .ok (.aload_n 0, 1) := by decide +kernel
theorem dX11_reckons_439 : decode cX11_reckons 439 = .ok (.iload 5, 2) := by decide +kernel
theorem dX11_reckons_441 : decode cX11_reckons 441 = .ok (.iload 4, 2) := by decide +kernel
theorem dX11_reckons_443 : decode cX11_reckons 443 = .ok (.iconst 1, 1) := by decide +kernel
theorem dX11_reckons_444 : decode cX11_reckons 444 = .ok (.isub, 1) := by decide +kernel
theorem dX11_reckons_445 : decode cX11_reckons 445 = .ok (.invokevirtual 191, 3) := by decide +kernel
theorem dX11_reckons_448 : decode cX11_reckons 448 = .ok (.imul, 1) := by decide +kernel
theorem dX11_reckons_449 : decode cX11_reckons 449 = .ok (.invokevirtual 182, 3) := by decide +kernel
theorem dX11_reckons_452 : decode cX11_reckons 452 = .ok (.iload 6, 2) := by decide +kernel
theorem dX11_reckons_454 : decode cX11_reckons 454 = .ok (.imul, 1) := by decide +kernel
theorem dX11_reckons_455 : decode cX11_reckons 455 = .ok (.invokevirtual 182, 3) := by decide +kernel
theorem dX11_reckons_458 : decode cX11_reckons 458 = .ok (.iastore, 1) := by decide +kernel
theorem dX11_reckons_459 : decode cX11_reckons 459 = .ok (.goto 110, 3) := by decide +kernel
theorem dX11_reckons_462 : decode cX11_reckons 462 = .ok (.iload_n 3, 1) := by decide +kernel
theorem dX11_reckons_463 : decode cX11_reckons 463 = .ok (.bipush 8, 2) := by decide +kernel
theorem dX11_reckons_465 : decode cX11_reckons 465 = .ok (.if_icmp .ne 104, 3) := by decide +kernel
theorem dX11_reckons_468 : decode cX11_reckons 468 = .ok (.sipush 199, 3) := by decide +kernel
theorem dX11_reckons_471 : decode cX11_reckons 471 = .ok (.iload 4, 2) := by decide +kernel
theorem dX11_reckons_473 : decode cX11_reckons 473 = .ok (.imul, 1) := by decide +kernel
theorem dX11_reckons_474 : decode cX11_reckons 474 = .ok (.iload 5, 2) := by decide +kernel
theorem dX11_reckons_476 : decode cX11_reckons 476 = .ok (.iadd, 1) := by decide +kernel
theorem dX11_reckons_477 : decode cX11_reckons 477 = .ok (.istore 9, 2) := by decide +kernel
theorem dX11_reckons_479 : decode cX11_reckons 479 = .ok (.aload_n 0, 1) := by decide +kernel
theorem dX11_reckons_480 : decode cX11_reckons 480 = .ok (.aload_n 0, 1) := by decide +kernel
theorem dX11_reckons_481 : decode cX11_reckons 481 = .ok (.getfield 185, 3) := by decide +kernel
theorem dX11_reckons_484 : decode cX11_reckons 484 = .ok (.ifCond .ne 14, 3) := by decide +kernel
theorem dX11_reckons_487 : decode cX11_reckons 487 = .ok (.aload_n 0, 1) := by decide +kernel
theorem dX11_reckons_488 : decode cX11_reckons 488 = .ok (.getfield 32, 3) := by decide +kernel
theorem dX11_reckons_491 : decode cX11_reckons 491 = .ok (.iload 9, 2) := by decide +kernel
theorem dX11_reckons_493 : decode cX11_reckons 493 = .ok (.iaload, 1) := by decide +kernel
theorem dX11_reckons_494 : decode cX11_reckons 494 = .ok (.iconst (-1), 1) := by decide +kernel
theorem dX11_reckons_495 : decode cX11_reckons 495 = .ok (.if_icmp .ne 7, 3) := by decide +kernel
theorem dX11_reckons_498 : decode cX11_reckons 498 = .ok (.iconst 1, 1) := by decide +kernel
theorem dX11_reckons_499 : decode cX11_reckons 499 = .ok (.goto 4, 3) := by decide +kernel
theorem dX11_reckons_502 : decode cX11_reckons 502 = .ok (.iconst 0, 1) := by decide +kernel
theorem dX11_reckons_503 : decode cX11_reckons 503 = .ok (.putfield 185, 3) := by decide +kernel
theorem dX11_reckons_506 : decode cX11_reckons 506 = .ok (.aload_n 0, 1) := by decide +kernel
theorem dX11_reckons_507 : decode cX11_reckons 507 = .ok (.getfield 41, 3) := by decide +kernel
theorem dX11_reckons_510 : decode cX11_reckons 510 = .ok (.iload_n 2, 1) := by decide +kernel
theorem dX11_reckons_511 : decode cX11_reckons 511 = .ok (.aload_n 0, 1) := by decide +kernel
theorem dX11_reckons_512 : decode cX11_reckons 512 = .ok (.getfield 32, 3) := by decide +kernel
theorem dX11_reckons_515 : decode cX11_reckons 515 = .ok (.iload 9, 2) := by decide +kernel
theorem dX11_reckons_517 : decode cX11_reckons 517 = .ok (.iaload, 1) := by decide +kernel
theorem dX11_reckons_518 : decode cX11_reckons 518 = .ok (.iconst (-1), 1) := by decide +kernel
theorem dX11_reckons_519 : decode cX11_reckons 519 = .ok (.if_icmp .ne 7, 3) := by decide +kernel
theorem dX11_reckons_522 : decode cX11_reckons 522 = .ok (.iconst 0, 1) := by decide +kernel
theorem dX11_reckons_523 : decode cX11_reckons 523 = .ok (.goto 10, 3) := by decide +kernel
theorem dX11_reckons_526 : decode cX11_reckons 526 = .ok (.aload_n 0, 1) := by decide +kernel
theorem dX11_reckons_527 : decode cX11_reckons 527 = .ok (.getfield 32, 3) := by decide +kernel
theorem dX11_reckons_530 : decode cX11_reckons 530 = .ok (.iload 9, 2) := by decide +kernel
theorem dX11_reckons_532 : decode cX11_reckons 532 = .ok (.iaload, 1) := by decide +kernel
theorem dX11_reckons_533 : decode cX11_reckons 533 = .ok (.iastore, 1) := by decide +kernel
theorem dX11_reckons_534 : decode cX11_reckons 534 = .ok (.aload_n 0, 1) := by decide +kernel
theorem dX11_reckons_535 : decode cX11_reckons 535 = .ok (.getfield 44, 3) := by decide +kernel
theorem dX11_reckons_538 : decode cX11_reckons 538 = .ok (.iload_n 2, 1) := by decide +kernel
theorem dX11_reckons_539 : decode cX11_reckons 539 = .ok (.aload_n 0, 1) := by decide +kernel
theorem dX11_reckons_540 : decode cX11_reckons 540 = .ok (.getfield 32, 3) := by decide +kernel
theorem dX11_reckons_543 : decode cX11_reckons 543 = .ok (.iload 9, 2) := by decide +kernel
theorem dX11_reckons_545 : decode cX11_reckons 545 = .ok (.iaload, 1) := by decide +kernel
theorem dX11_reckons_546 : decode cX11_reckons 546 = .ok (.iconst (-1), 1) := by decide +kernel
theorem dX11_reckons_547 : decode cX11_reckons 547 = .ok (.if_icmp .ne 7, 3) := by decide +kernel
theorem dX11_reckons_550 : decode cX11_reckons 550 = .ok (.iconst 0, 1) := by decide +kernel
theorem dX11_reckons_551 : decode cX11_reckons 551 = .ok (.goto 17, 3) := by decide +kernel
theorem dX11_reckons_554 : decode cX11_reckons 554 = .ok (.aload_n 0, 1) := by decide +kernel
theorem dX11_reckons_555 : decode cX11_reckons 555 = .ok (.aload_n 0, 1) := by decide +kernel
theorem dX11_reckons_556 : decode cX11_reckons 556 = .ok (.getfield 35, 3) := by decide +kernel
theorem dX11_reckons_559 : decode cX11_reckons 559 = .ok (.iload 9, 2) := by decide +kernel
theorem dX11_reckons_561 : decode cX11_reckons 561 = .ok (.iaload, 1) := by decide +kernel
theorem dX11_reckons_562 : decode cX11_reckons 562 = .ok (.iload 6, 2) := by decide +kernel
theorem dX11_reckons_564 : decode cX11_reckons 564 = .ok (.imul, 1) := by decide +kernel
theorem dX11_reckons_565 : decode cX11_reckons 565 = .ok (.invokevirtual 182, 3) := by decide +kernel
theorem dX11_reckons_568 : decode cX11_reckons 568 = .ok (.iastore, 1) := by decide +kernel
theorem dX11_reckons_569 : decode cX11_reckons 569 = .ok (.return_, 1) := by decide +kernel
theorem dX11_feeds_0 : decode cX11_feeds 0 = .ok (.aload_n 0, 1) := by decide +kernel
theorem dX11_feeds_1 : decode cX11_feeds 1 = .ok (.iload_n 1, 1) := by decide +kernel
theorem dX11_feeds_2 : decode cX11_feeds 2 = .ok (.invokevirtual 173, 3) := by decide +kernel
theorem dX11_feeds_5 : decode cX11_feeds 5 = .ok (.aload_n 0, 1) := by decide +kernel
theorem dX11_feeds_6 : decode cX11_feeds 6 = .ok (.iconst 0, 1) := by decide +kernel
theorem dX11_feeds_7 : decode cX11_feeds 7 = .ok (.putfield 185, 3) := by decide +kernel
theorem dX11_feeds_10 : decode cX11_feeds 10 = .ok (.iconst 0, 1) := by decide +kernel
theorem dX11_feeds_11 : decode cX11_feeds 11 = .ok (.istore 4, 2) := by decide +kernel
theorem dX11_feeds_13 : decode cX11_feeds 13 = .ok (.iload 4, 2) := by decide +kernel
theorem dX11_feeds_15 : decode cX11_feeds 15 = .ok (.aload_n 0, 1) := by decide +kernel
theorem dX11_feeds_16 : decode cX11_feeds 16 = .ok (.iload_n 1, 1) := by decide +kernel
theorem dX11_feeds_17 : decode cX11_feeds 17 = .ok (.invokevirtual 156, 3) := by decide +kernel
theorem dX11_feeds_20 : decode cX11_feeds 20 = .ok (.if_icmp .ge 46, 3) := by decide +kernel
theorem dX11_feeds_23 : decode cX11_feeds 23 = .ok (.aload_n 0, 1) := by decide +kernel
theorem dX11_feeds_24 : decode cX11_feeds 24 = .ok (.iload_n 1, 1) := by decide +kernel
theorem dX11_feeds_25 : decode cX11_feeds 25 = .ok (.iload 4, 2) := by decide +kernel
theorem dX11_feeds_27 : decode cX11_feeds 27 = .ok (.invokevirtual 159, 3) := by decide +kernel
theorem dX11_feeds_30 : decode cX11_feeds 30 = .ok (.iconst 1, 1) := by decide +kernel
theorem dX11_feeds_31 : decode cX11_feeds 31 = .ok (.if_icmp .ne 22, 3) := by decide +kernel
theorem dX11_feeds_34 : decode cX11_feeds 34 = .ok (.aload_n 0, 1) := by decide +kernel
theorem dX11_feeds_35 : decode cX11_feeds 35 = .ok (.getfield 41, 3) := by decide +kernel
theorem dX11_feeds_38 : decode cX11_feeds 38 = .ok (.iload 4, 2) := by decide +kernel
theorem dX11_feeds_40 : decode cX11_feeds 40 = .ok (.iload_n 2, 1) := by decide +kernel
theorem dX11_feeds_41 : decode cX11_feeds 41 = .ok (.iastore, 1) := by decide +kernel
theorem dX11_feeds_42 : decode cX11_feeds 42 = .ok (.aload_n 0, 1) := by decide +kernel
theorem dX11_feeds_43 : decode cX11_feeds 43 = .ok (.getfield 44, 3) := by decide +kernel
theorem dX11_feeds_46 : decode cX11_feeds 46 = .ok (.iload 4, 2) := by decide +kernel
theorem dX11_feeds_48 : decode cX11_feeds 48 = .ok (.iload_n 3, 1) := by decide +kernel
theorem dX11_feeds_49 : decode cX11_feeds 49 = .ok (.iastore, 1) := by decide +kernel
theorem dX11_feeds_50 : decode cX11_feeds 50 = .ok (.goto 10, 3) := by decide +kernel
theorem dX11_feeds_53 : decode cX11_feeds 53 = .ok (.aload_n 0, 1) := by decide +kernel
theorem dX11_feeds_54 : decode cX11_feeds 54 = .ok (.iload_n 1, 1) := by decide +kernel
theorem dX11_feeds_55 : decode cX11_feeds 55 = .ok (.iload 4, 2) := by decide +kernel
theorem dX11_feeds_57 : decode cX11_feeds 57 = .ok (.invokevirtual 194, 3) := by decide +kernel
theorem dX11_feeds_60 : decode cX11_feeds 60 = .ok (.iinc 4 1, 3) := by decide +kernel
theorem dX11_feeds_63 : decode cX11_feeds 63 = .ok (.goto (-50), 3) := by decide +kernel
theorem dX11_feeds_66 : decode cX11_feeds 66 = .ok (.return_, 1) := by decide +kernel
theorem dX11_shares_0 : decode cX11_shares 0 = .ok (.aload_n 0, 1) := by decide +kernel
theorem dX11_shares_1 : decode cX11_shares 1 = .ok (.iload_n 1, 1) := by decide +kernel
theorem dX11_shares_2 : decode cX11_shares 2 = .ok (.iload_n 2, 1) := by decide +kernel
theorem dX11_shares_3 : decode cX11_shares 3 = .ok (.invokevirtual 159, 3) := by decide +kernel
theorem dX11_shares_6 : decode cX11_shares 6 = .ok (.istore_n 3, 1) := by decide +kernel
theorem dX11_shares_7 : decode cX11_shares 7 = .ok (.aload_n 0, 1) := by decide +kernel
theorem dX11_shares_8 : decode cX11_shares 8 = .ok (.iload_n 1, 1) := by decide +kernel
theorem dX11_shares_9 : decode cX11_shares 9 = .ok (.iload_n 2, 1) := by decide +kernel
theorem dX11_shares_10 : decode cX11_shares 10 = .ok (.invokevirtual 163, 3) := by decide +kernel
theorem dX11_shares_13 : decode cX11_shares 13 = .ok (.istore 4, 2) := by decide +kernel
theorem dX11_shares_15 : decode cX11_shares 15 = .ok (.aload_n 0, 1) := by decide +kernel
theorem dX11_shares_16 : decode cX11_shares 16 = .ok (.getfield 53, 3) := by decide +kernel
theorem dX11_shares_19 : decode cX11_shares 19 = .ok (.iload_n 2, 1) := by decide +kernel
theorem dX11_shares_20 : decode cX11_shares 20 = .ok (.iaload, 1) := by decide +kernel
theorem dX11_shares_21 : decode cX11_shares 21 = .ok (.istore 5, 2) := by decide +kernel
theorem dX11_shares_23 : decode cX11_shares 23 = .ok (.aload_n 0, 1) := by decide +kernel
theorem dX11_shares_24 : decode cX11_shares 24 = .ok (.getfield 47, 3) := by decide +kernel
theorem dX11_shares_27 : decode cX11_shares 27 = .ok (.iload_n 2, 1) := by decide +kernel
theorem dX11_shares_28 : decode cX11_shares 28 = .ok (.iaload, 1) := by decide +kernel
theorem dX11_shares_29 : decode cX11_shares 29 = .ok (.istore 6, 2) := by decide +kernel
theorem dX11_shares_31 : decode cX11_shares 31 = .ok (.aload_n 0, 1) := by decide +kernel
theorem dX11_shares_32 : decode cX11_shares 32 = .ok (.getfield 50, 3) := by decide +kernel
theorem dX11_shares_35 : decode cX11_shares 35 = .ok (.iload_n 2, 1) := by decide +kernel
theorem dX11_shares_36 : decode cX11_shares 36 = .ok (.iaload, 1) := by decide +kernel
theorem dX11_shares_37 : decode cX11_shares 37 = .ok (.istore 7, 2) := by decide +kernel
theorem dX11_shares_39 : decode cX11_shares 39 = .ok (.iload_n 3, 1) := by decide +kernel
theorem dX11_shares_40 : decode cX11_shares 40 = .ok (.iconst 2, 1) := by decide +kernel
theorem dX11_shares_41 : decode cX11_shares 41 = .ok (.if_icmp .ne 27, 3) := by decide +kernel
theorem dX11_shares_44 : decode cX11_shares 44 = .ok (.aload_n 0, 1) := by decide +kernel
theorem dX11_shares_45 : decode cX11_shares 45 = .ok (.getfield 53, 3) := by decide +kernel
theorem dX11_shares_48 : decode cX11_shares 48 = .ok (.iload 6, 2) := by decide +kernel
theorem dX11_shares_50 : decode cX11_shares 50 = .ok (.aload_n 0, 1) := by decide +kernel
theorem dX11_shares_51 : decode cX11_shares 51 = .ok (.aload_n 0, 1) := by decide +kernel
theorem dX11_shares_52 : decode cX11_shares 52 = .ok (.getfield 53, 3) := by decide +kernel
theorem dX11_shares_55 : decode cX11_shares 55 = .ok (.iload 6, 2) := by decide +kernel
theorem dX11_shares_57 : decode cX11_shares 57 = .ok (.iaload, 1) := by decide +kernel
theorem dX11_shares_58 : decode cX11_shares 58 = .ok (.iload 5, 2) := by decide +kernel
theorem dX11_shares_60 : decode cX11_shares 60 = .ok (.isub, 1) := by decide +kernel
theorem dX11_shares_61 : decode cX11_shares 61 = .ok (.invokevirtual 182, 3) := by decide +kernel
theorem dX11_shares_64 : decode cX11_shares 64 = .ok (.iastore, 1) := by decide +kernel
theorem dX11_shares_65 : decode cX11_shares 65 = .ok (.goto 329, 3) := by decide +kernel
theorem dX11_shares_68 : decode cX11_shares 68 = .ok (.iload_n 3, 1) := by decide +kernel
theorem dX11_shares_69 : decode cX11_shares 69 = .ok (.iconst 3, 1) := by decide +kernel
theorem dX11_shares_70 : decode cX11_shares 70 = .ok (.if_icmp .eq 8, 3) := by decide +kernel
theorem dX11_shares_73 : decode cX11_shares 73 = .ok (.iload_n 3, 1) := by decide +kernel
theorem dX11_shares_74 : decode cX11_shares 74 = .ok (.iconst 4, 1) := by decide +kernel
theorem dX11_shares_75 : decode cX11_shares 75 = .ok (.if_icmp .ne 59, 3) := by decide +kernel
theorem dX11_shares_78 : decode cX11_shares 78 = .ok (.aload_n 0, 1) := by decide +kernel
theorem dX11_shares_79 : decode cX11_shares 79 = .ok (.getfield 53, 3) := by decide +kernel
theorem dX11_shares_82 : decode cX11_shares 82 = .ok (.iload 6, 2) := by decide +kernel
theorem dX11_shares_84 : decode cX11_shares 84 = .ok (.aload_n 0, 1) := by decide +kernel
theorem dX11_shares_85 : decode cX11_shares 85 = .ok (.aload_n 0, 1) := by decide +kernel
theorem dX11_shares_86 : decode cX11_shares 86 = .ok (.getfield 53, 3) := by decide +kernel
theorem dX11_shares_89 : decode cX11_shares 89 = .ok (.iload 6, 2) := by decide +kernel
theorem dX11_shares_91 : decode cX11_shares 91 = .ok (.iaload, 1) := by decide +kernel
theorem dX11_shares_92 : decode cX11_shares 92 = .ok (.iload 5, 2) := by decide +kernel
theorem dX11_shares_94 : decode cX11_shares 94 = .ok (.iadd, 1) := by decide +kernel
theorem dX11_shares_95 : decode cX11_shares 95 = .ok (.invokevirtual 182, 3) := by decide +kernel
theorem dX11_shares_98 : decode cX11_shares 98 = .ok (.iastore, 1) := by decide +kernel
theorem dX11_shares_99 : decode cX11_shares 99 = .ok (.aload_n 0, 1) := by decide +kernel
theorem dX11_shares_100 : decode cX11_shares 100 = .ok (.getfield 53, 3) := by decide +kernel
theorem dX11_shares_103 : decode cX11_shares 103 = .ok (.iload 7, 2) := by decide +kernel
theorem dX11_shares_105 : decode cX11_shares 105 = .ok (.aload_n 0, 1) := by decide +kernel
theorem dX11_shares_106 : decode cX11_shares 106 = .ok (.aload_n 0, 1) := by decide +kernel
theorem dX11_shares_107 : decode cX11_shares 107 = .ok (.getfield 53, 3) := by decide +kernel
theorem dX11_shares_110 : decode cX11_shares 110 = .ok (.iload 7, 2) := by decide +kernel
theorem dX11_shares_112 : decode cX11_shares 112 = .ok (.iaload, 1) := by decide +kernel
theorem dX11_shares_113 : decode cX11_shares 113 = .ok (.iload_n 3, 1) := by decide +kernel
theorem dX11_shares_114 : decode cX11_shares 114 = .ok (.iconst 3, 1) := by decide +kernel
theorem dX11_shares_115 : decode cX11_shares 115 = .ok (.if_icmp .ne 8, 3) := by decide +kernel
theorem dX11_shares_118 : decode cX11_shares 118 = .ok (.iload 5, 2) := by decide +kernel
theorem dX11_shares_120 : decode cX11_shares 120 = .ok (.goto 6, 3) := by decide +kernel
theorem dX11_shares_123 : decode cX11_shares 123 = .ok (.iload 5, 2) := by decide +kernel
theorem dX11_shares_125 : decode cX11_shares 125 = .ok (.ineg, 1) := by decide +kernel
theorem dX11_shares_126 : decode cX11_shares 126 = .ok (.iadd, 1) := by decide +kernel
theorem dX11_shares_127 : decode cX11_shares 127 = .ok (.invokevirtual 182, 3) := by decide +kernel
theorem dX11_shares_130 : decode cX11_shares 130 = .ok (.iastore, 1) := by decide +kernel
theorem dX11_shares_131 : decode cX11_shares 131 = .ok (.goto 263, 3) := by decide +kernel
theorem dX11_shares_134 : decode cX11_shares 134 = .ok (.iload_n 3, 1) := by decide +kernel
theorem dX11_shares_135 : decode cX11_shares 135 = .ok (.iconst 5, 1) := by decide +kernel
theorem dX11_shares_136 : decode cX11_shares 136 = .ok (.if_icmp .ne 64, 3) := by decide +kernel
theorem dX11_shares_139 : decode cX11_shares 139 = .ok (.aload_n 0, 1) := by decide +kernel
theorem dX11_shares_140 : decode cX11_shares 140 = .ok (.getfield 53, 3) := by decide +kernel
theorem dX11_shares_143 : decode cX11_shares 143 = .ok (.iload 6, 2) := by decide +kernel
theorem dX11_shares_145 : decode cX11_shares 145 = .ok (.aload_n 0, 1) := by decide +kernel
theorem dX11_shares_146 : decode cX11_shares 146 = .ok (.aload_n 0, 1) := by decide +kernel
theorem dX11_shares_147 : decode cX11_shares 147 = .ok (.getfield 53, 3) := by decide +kernel
theorem dX11_shares_150 : decode cX11_shares 150 = .ok (.iload 6, 2) := by decide +kernel
theorem dX11_shares_152 : decode cX11_shares 152 = .ok (.iaload, 1) := by decide +kernel
theorem dX11_shares_153 : decode cX11_shares 153 = .ok (.iload 5, 2) := by decide +kernel
theorem dX11_shares_155 : decode cX11_shares 155 = .ok (.aload_n 0, 1) := by decide +kernel
theorem dX11_shares_156 : decode cX11_shares 156 = .ok (.getfield 41, 3) := by decide +kernel
theorem dX11_shares_159 : decode cX11_shares 159 = .ok (.iload 7, 2) := by decide +kernel
theorem dX11_shares_161 : decode cX11_shares 161 = .ok (.iaload, 1) := by decide +kernel
theorem dX11_shares_162 : decode cX11_shares 162 = .ok (.imul, 1) := by decide +kernel
theorem dX11_shares_163 : decode cX11_shares 163 = .ok (.iadd, 1) := by decide +kernel
theorem dX11_shares_164 : decode cX11_shares 164 = .ok (.invokevirtual 182, 3) := by decide +kernel
theorem dX11_shares_167 : decode cX11_shares 167 = .ok (.iastore, 1) := by decide +kernel
theorem dX11_shares_168 : decode cX11_shares 168 = .ok (.aload_n 0, 1) := by decide +kernel
theorem dX11_shares_169 : decode cX11_shares 169 = .ok (.getfield 53, 3) := by decide +kernel
theorem dX11_shares_172 : decode cX11_shares 172 = .ok (.iload 7, 2) := by decide +kernel
theorem dX11_shares_174 : decode cX11_shares 174 = .ok (.aload_n 0, 1) := by decide +kernel
theorem dX11_shares_175 : decode cX11_shares 175 = .ok (.aload_n 0, 1) := by decide +kernel
theorem dX11_shares_176 : decode cX11_shares 176 = .ok (.getfield 53, 3) := by decide +kernel
theorem dX11_shares_179 : decode cX11_shares 179 = .ok (.iload 7, 2) := by decide +kernel
theorem dX11_shares_181 : decode cX11_shares 181 = .ok (.iaload, 1) := by decide +kernel
theorem dX11_shares_182 : decode cX11_shares 182 = .ok (.iload 5, 2) := by decide +kernel
theorem dX11_shares_184 : decode cX11_shares 184 = .ok (.aload_n 0, 1) := by decide +kernel
theorem dX11_shares_185 : decode cX11_shares 185 = .ok (.getfield 41, 3) := by decide +kernel
theorem dX11_shares_188 : decode cX11_shares 188 = .ok (.iload 6, 2) := by decide +kernel
theorem dX11_shares_190 : decode cX11_shares 190 = .ok (.iaload, 1) := by decide +kernel
theorem dX11_shares_191 : decode cX11_shares 191 = .ok (.imul, 1) := by decide +kernel
theorem dX11_shares_192 : decode cX11_shares 192 = .ok (.iadd, 1) := by decide +kernel
theorem dX11_shares_193 : decode cX11_shares 193 = .ok (.invokevirtual 182, 3) := by decide +kernel
theorem dX11_shares_196 : decode cX11_shares 196 = .ok (.iastore, 1) := by decide +kernel
theorem dX11_shares_197 : decode cX11_shares 197 = .ok (.goto 197, 3) := by decide +kernel
theorem dX11_shares_200 : decode cX11_shares 200 = .ok (.iload_n 3, 1) := by decide +kernel
theorem dX11_shares_201 : decode cX11_shares 201 = .ok (.bipush 6, 2) := by decide +kernel
theorem dX11_shares_203 : decode cX11_shares 203 = .ok (.if_icmp .ne 86, 3) := by decide +kernel
theorem dX11_shares_206 : decode cX11_shares 206 = .ok (.aload_n 0, 1) := by decide +kernel
theorem dX11_shares_207 : decode cX11_shares 207 = .ok (.aload_n 0, 1) := by decide +kernel
theorem dX11_shares_208 : decode cX11_shares 208 = .ok (.getfield 41, 3) := by decide +kernel
theorem dX11_shares_211 : decode cX11_shares 211 = .ok (.iload 7, 2) := by decide +kernel
theorem dX11_shares_213 : decode cX11_shares 213 = .ok (.iaload, 1) := by decide +kernel
theorem dX11_shares_214 : decode cX11_shares 214 = .ok (.invokevirtual 188, 3) := by decide +kernel
theorem dX11_shares_217 : decode cX11_shares 217 = .ok (.istore 8, 2) := by decide +kernel
theorem dX11_shares_219 : decode cX11_shares 219 = .ok (.aload_n 0, 1) := by decide +kernel
theorem dX11_shares_220 : decode cX11_shares 220 = .ok (.getfield 53, 3) := by decide +kernel
theorem dX11_shares_223 : decode cX11_shares 223 = .ok (.iload 6, 2) := by decide +kernel
theorem dX11_shares_225 : decode cX11_shares 225 = .ok (.aload_n 0, 1) := by decide +kernel
theorem dX11_shares_226 : decode cX11_shares 226 = .ok (.aload_n 0, 1) := by decide +kernel
theorem dX11_shares_227 : decode cX11_shares 227 = .ok (.getfield 53, 3) := by decide +kernel
theorem dX11_shares_230 : decode cX11_shares 230 = .ok (.iload 6, 2) := by decide +kernel
theorem dX11_shares_232 : decode cX11_shares 232 = .ok (.iaload, 1) := by decide +kernel
theorem dX11_shares_233 : decode cX11_shares 233 = .ok (.iload 5, 2) := by decide +kernel
theorem dX11_shares_235 : decode cX11_shares 235 = .ok (.iload 8, 2) := by decide +kernel
theorem dX11_shares_237 : decode cX11_shares 237 = .ok (.imul, 1) := by decide +kernel
theorem dX11_shares_238 : decode cX11_shares 238 = .ok (.iadd, 1) := by decide +kernel
theorem dX11_shares_239 : decode cX11_shares 239 = .ok (.invokevirtual 182, 3) := by decide +kernel
theorem dX11_shares_242 : decode cX11_shares 242 = .ok (.iastore, 1) := by decide +kernel
theorem dX11_shares_243 : decode cX11_shares 243 = .ok (.aload_n 0, 1) := by decide +kernel
theorem dX11_shares_244 : decode cX11_shares 244 = .ok (.getfield 53, 3) := by decide +kernel
theorem dX11_shares_247 : decode cX11_shares 247 = .ok (.iload 7, 2) := by decide +kernel
theorem dX11_shares_249 : decode cX11_shares 249 = .ok (.aload_n 0, 1) := by decide +kernel
theorem dX11_shares_250 : decode cX11_shares 250 = .ok (.aload_n 0, 1) := by decide +kernel
theorem dX11_shares_251 : decode cX11_shares 251 = .ok (.getfield 53, 3) := by decide +kernel
theorem dX11_shares_254 : decode cX11_shares 254 = .ok (.iload 7, 2) := by decide +kernel
theorem dX11_shares_256 : decode cX11_shares 256 = .ok (.iaload, 1) := by decide +kernel
theorem dX11_shares_257 : decode cX11_shares 257 = .ok (.aload_n 0, 1) := by decide +kernel
theorem dX11_shares_258 : decode cX11_shares 258 = .ok (.iload 5, 2) := by decide +kernel
theorem dX11_shares_260 : decode cX11_shares 260 = .ok (.aload_n 0, 1) := by decide +kernel
theorem dX11_shares_261 : decode cX11_shares 261 = .ok (.getfield 41, 3) := by decide +kernel
theorem dX11_shares_264 : decode cX11_shares 264 = .ok (.iload 6, 2) := by decide +kernel
theorem dX11_shares_266 : decode cX11_shares 266 = .ok (.iaload, 1) := by decide +kernel
theorem dX11_shares_267 : decode cX11_shares 267 = .ok (.imul, 1) := by decide +kernel
theorem dX11_shares_268 : decode cX11_shares 268 = .ok (.invokevirtual 182, 3) := by decide +kernel
theorem dX11_shares_271 : decode cX11_shares 271 = .ok (.aload_n 0, 1) := by decide +kernel
theorem dX11_shares_272 : decode cX11_shares 272 = .ok (.iload 8, 2) := by decide +kernel
theorem dX11_shares_274 : decode cX11_shares 274 = .ok (.iload 8, 2) := by decide +kernel
theorem dX11_shares_276 : decode cX11_shares 276 = .ok (.imul, 1) := by decide +kernel
theorem dX11_shares_277 : decode cX11_shares 277 = .ok (.invokevirtual 182, 3) := by decide +kernel
theorem dX11_shares_280 : decode cX11_shares 280 = .ok (.imul, 1) := by decide +kernel
theorem dX11_shares_281 : decode cX11_shares 281 = .ok (.isub, 1) := by decide +kernel
theorem dX11_shares_282 : decode cX11_shares 282 = .ok (.invokevirtual 182, 3) := by decide +kernel
theorem dX11_shares_285 : decode cX11_shares 285 = .ok (.iastore, 1) := by decide +kernel
theorem dX11_shares_286 : decode cX11_shares 286 = .ok (.goto 108, 3) := by decide +kernel
theorem dX11_shares_289 : decode cX11_shares 289 = .ok (.iload_n 3, 1) := by decide +kernel
theorem dX11_shares_290 : decode cX11_shares 290 = .ok (.bipush 7, 2) := by decide +kernel
theorem dX11_shares_292 : decode cX11_shares 292 = .ok (.if_icmp .ne 55, 3) := by decide +kernel
theorem dX11_shares_295 : decode cX11_shares 295 = .ok (.iload 4, 2) := by decide +kernel
theorem dX11_shares_297 : decode cX11_shares 297 = .ok (.ifCond .le 50, 3) := by decide +kernel
theorem dX11_shares_300 : decode cX11_shares 300 = .ok (.aload_n 0, 1) := by decide +kernel
theorem dX11_shares_301 : decode cX11_shares 301 = .ok (.getfield 53, 3) := by decide +kernel
theorem dX11_shares_304 : decode cX11_shares 304 = .ok (.iload 6, 2) := by decide +kernel
theorem dX11_shares_306 : decode cX11_shares 306 = .ok (.aload_n 0, 1) := by decide +kernel
theorem dX11_shares_307 : decode cX11_shares 307 = .ok (.aload_n 0, 1) := by decide +kernel
theorem dX11_shares_308 : decode cX11_shares 308 = .ok (.getfield 53, 3) := by decide +kernel
theorem dX11_shares_311 : decode cX11_shares 311 = .ok (.iload 6, 2) := by decide +kernel
theorem dX11_shares_313 : decode cX11_shares 313 = .ok (.iaload, 1) := by decide +kernel
theorem dX11_shares_314 : decode cX11_shares 314 = .ok (.aload_n 0, 1) := by decide +kernel
theorem dX11_shares_315 : decode cX11_shares 315 = .ok (.iload 4, 2) := by decide +kernel
theorem dX11_shares_317 : decode cX11_shares 317 = .ok (.aload_n 0, 1) := by decide +kernel
theorem dX11_shares_318 : decode cX11_shares 318 = .ok (.aload_n 0, 1) := by decide +kernel
theorem dX11_shares_319 : decode cX11_shares 319 = .ok (.getfield 41, 3) := by decide +kernel
theorem dX11_shares_322 : decode cX11_shares 322 = .ok (.iload 6, 2) := by decide +kernel
theorem dX11_shares_324 : decode cX11_shares 324 = .ok (.iaload, 1) := by decide +kernel
theorem dX11_shares_325 : decode cX11_shares 325 = .ok (.iload 4, 2) := by decide +kernel
theorem dX11_shares_327 : decode cX11_shares 327 = .ok (.iconst 1, 1) := by decide +kernel
theorem dX11_shares_328 : decode cX11_shares 328 = .ok (.isub, 1) := by decide +kernel
theorem dX11_shares_329 : decode cX11_shares 329 = .ok (.invokevirtual 191, 3) := by decide +kernel
theorem dX11_shares_332 : decode cX11_shares 332 = .ok (.imul, 1) := by decide +kernel
theorem dX11_shares_333 : decode cX11_shares 333 = .ok (.invokevirtual 182, 3) := by decide +kernel
theorem dX11_shares_336 : decode cX11_shares 336 = .ok (.iload 5, 2) := by decide +kernel
theorem dX11_shares_338 : decode cX11_shares 338 = .ok (.imul, 1) := by decide +kernel
theorem dX11_shares_339 : decode cX11_shares 339 = .ok (.iadd, 1) := by decide +kernel
theorem dX11_shares_340 : decode cX11_shares 340 = .ok (.invokevirtual 182, 3) := by decide +kernel
theorem dX11_shares_343 : decode cX11_shares 343 = .ok (.iastore, 1) := by decide +kernel
theorem dX11_shares_344 : decode cX11_shares 344 = .ok (.goto 50, 3) := by decide +kernel
theorem dX11_shares_347 : decode cX11_shares 347 = .ok (.iload_n 3, 1) := by decide +kernel
theorem dX11_shares_348 : decode cX11_shares 348 = .ok (.bipush 8, 2) := by decide +kernel
theorem dX11_shares_350 : decode cX11_shares 350 = .ok (.if_icmp .ne 44, 3) := by decide +kernel
theorem dX11_shares_353 : decode cX11_shares 353 = .ok (.aload_n 0, 1) := by decide +kernel
theorem dX11_shares_354 : decode cX11_shares 354 = .ok (.getfield 53, 3) := by decide +kernel
theorem dX11_shares_357 : decode cX11_shares 357 = .ok (.iload 6, 2) := by decide +kernel
theorem dX11_shares_359 : decode cX11_shares 359 = .ok (.aload_n 0, 1) := by decide +kernel
theorem dX11_shares_360 : decode cX11_shares 360 = .ok (.aload_n 0, 1) := by decide +kernel
theorem dX11_shares_361 : decode cX11_shares 361 = .ok (.getfield 53, 3) := by decide +kernel
theorem dX11_shares_364 : decode cX11_shares 364 = .ok (.iload 6, 2) := by decide +kernel
theorem dX11_shares_366 : decode cX11_shares 366 = .ok (.iaload, 1) := by decide +kernel
theorem dX11_shares_367 : decode cX11_shares 367 = .ok (.iload 5, 2) := by decide +kernel
theorem dX11_shares_369 : decode cX11_shares 369 = .ok (.aload_n 0, 1) := by decide +kernel
theorem dX11_shares_370 : decode cX11_shares 370 = .ok (.getfield 38, 3) := by decide +kernel
theorem dX11_shares_373 : decode cX11_shares 373 = .ok (.sipush 199, 3) := by decide +kernel
theorem dX11_shares_376 : decode cX11_shares 376 = .ok (.iload 4, 2) := by decide +kernel
theorem dX11_shares_378 : decode cX11_shares 378 = .ok (.imul, 1) := by decide +kernel
theorem dX11_shares_379 : decode cX11_shares 379 = .ok (.aload_n 0, 1) := by decide +kernel
theorem dX11_shares_380 : decode cX11_shares 380 = .ok (.getfield 41, 3) := by decide +kernel
theorem dX11_shares_383 : decode cX11_shares 383 = .ok (.iload 6, 2) := by decide +kernel
theorem dX11_shares_385 : decode cX11_shares 385 = .ok (.iaload, 1) := by decide +kernel
theorem dX11_shares_386 : decode cX11_shares 386 = .ok (.iadd, 1) := by decide +kernel
theorem dX11_shares_387 : decode cX11_shares 387 = .ok (.iaload, 1) := by decide +kernel
theorem dX11_shares_388 : decode cX11_shares 388 = .ok (.imul, 1) := by decide +kernel
theorem dX11_shares_389 : decode cX11_shares 389 = .ok (.iadd, 1) := by decide +kernel
theorem dX11_shares_390 : decode cX11_shares 390 = .ok (.invokevirtual 182, 3) := by decide +kernel
theorem dX11_shares_393 : decode cX11_shares 393 = .ok (.iastore, 1) := by decide +kernel
theorem dX11_shares_394 : decode cX11_shares 394 = .ok (.return_, 1) := by decide +kernel
theorem dX11_slopeOf_0 : decode cX11_slopeOf 0 = .ok (.iconst 0, 1) := by decide +kernel
theorem dX11_slopeOf_1 : decode cX11_slopeOf 1 = .ok (.istore_n 2, 1) := by decide +kernel
theorem dX11_slopeOf_2 : decode cX11_slopeOf 2 = .ok (.iconst 0, 1) := by decide +kernel
theorem dX11_slopeOf_3 : decode cX11_slopeOf 3 = .ok (.istore_n 3, 1) := by decide +kernel
theorem dX11_slopeOf_4 : decode cX11_slopeOf 4 = .ok (.iload_n 3, 1) := by decide +kernel
theorem dX11_slopeOf_5 : decode cX11_slopeOf 5 = .ok (.aload_n 0, 1) := by decide +kernel
theorem dX11_slopeOf_6 : decode cX11_slopeOf 6 = .ok (.iload_n 1, 1) := by decide +kernel
theorem dX11_slopeOf_7 : decode cX11_slopeOf 7 = .ok (.invokevirtual 156, 3) := by decide +kernel
theorem dX11_slopeOf_10 : decode cX11_slopeOf 10 = .ok (.if_icmp .ge 31, 3) := by decide +kernel
theorem dX11_slopeOf_13 : decode cX11_slopeOf 13 = .ok (.aload_n 0, 1) := by decide +kernel
theorem dX11_slopeOf_14 : decode cX11_slopeOf 14 = .ok (.getfield 53, 3) := by decide +kernel
theorem dX11_slopeOf_17 : decode cX11_slopeOf 17 = .ok (.iload_n 3, 1) := by decide +kernel
theorem dX11_slopeOf_18 : decode cX11_slopeOf 18 = .ok (.iload_n 3, 1) := by decide +kernel
theorem dX11_slopeOf_19 : decode cX11_slopeOf 19 = .ok (.aload_n 0, 1) := by decide +kernel
theorem dX11_slopeOf_20 : decode cX11_slopeOf 20 = .ok (.iload_n 1, 1) := by decide +kernel
theorem dX11_slopeOf_21 : decode cX11_slopeOf 21 = .ok (.invokevirtual 156, 3) := by decide +kernel
theorem dX11_slopeOf_24 : decode cX11_slopeOf 24 = .ok (.iconst 1, 1) := by decide +kernel
theorem dX11_slopeOf_25 : decode cX11_slopeOf 25 = .ok (.isub, 1) := by decide +kernel
theorem dX11_slopeOf_26 : decode cX11_slopeOf 26 = .ok (.if_icmp .ne 7, 3) := by decide +kernel
theorem dX11_slopeOf_29 : decode cX11_slopeOf 29 = .ok (.iconst 1, 1) := by decide +kernel
theorem dX11_slopeOf_30 : decode cX11_slopeOf 30 = .ok (.goto 4, 3) := by decide +kernel
theorem dX11_slopeOf_33 : decode cX11_slopeOf 33 = .ok (.iconst 0, 1) := by decide +kernel
theorem dX11_slopeOf_34 : decode cX11_slopeOf 34 = .ok (.iastore, 1) := by decide +kernel
theorem dX11_slopeOf_35 : decode cX11_slopeOf 35 = .ok (.iinc 3 1, 3) := by decide +kernel
theorem dX11_slopeOf_38 : decode cX11_slopeOf 38 = .ok (.goto (-34), 3) := by decide +kernel
theorem dX11_slopeOf_41 : decode cX11_slopeOf 41 = .ok (.aload_n 0, 1) := by decide +kernel
theorem dX11_slopeOf_42 : decode cX11_slopeOf 42 = .ok (.iload_n 1, 1) := by decide +kernel
theorem dX11_slopeOf_43 : decode cX11_slopeOf 43 = .ok (.invokevirtual 156, 3) := by decide +kernel
theorem dX11_slopeOf_46 : decode cX11_slopeOf 46 = .ok (.iconst 1, 1) := by decide +kernel
theorem dX11_slopeOf_47 : decode cX11_slopeOf 47 = .ok (.isub, 1) := by decide +kernel
theorem dX11_slopeOf_48 : decode cX11_slopeOf 48 = .ok (.istore_n 3, 1) := by decide +kernel
theorem dX11_slopeOf_49 : decode cX11_slopeOf 49 = .ok (.iload_n 3, 1) := by decide +kernel
theorem dX11_slopeOf_50 : decode cX11_slopeOf 50 = .ok (.ifCond .lt 42, 3) := by decide +kernel
theorem dX11_slopeOf_53 : decode cX11_slopeOf 53 = .ok (.aload_n 0, 1) := by decide +kernel
theorem dX11_slopeOf_54 : decode cX11_slopeOf 54 = .ok (.iload_n 1, 1) := by decide +kernel
theorem dX11_slopeOf_55 : decode cX11_slopeOf 55 = .ok (.iload_n 3, 1) := by decide +kernel
theorem dX11_slopeOf_56 : decode cX11_slopeOf 56 = .ok (.invokevirtual 197, 3) := by decide +kernel
theorem dX11_slopeOf_59 : decode cX11_slopeOf 59 = .ok (.aload_n 0, 1) := by decide +kernel
theorem dX11_slopeOf_60 : decode cX11_slopeOf 60 = .ok (.iload_n 1, 1) := by decide +kernel
theorem dX11_slopeOf_61 : decode cX11_slopeOf 61 = .ok (.iload_n 3, 1) := by decide +kernel
theorem dX11_slopeOf_62 : decode cX11_slopeOf 62 = .ok (.invokevirtual 159, 3) := by decide +kernel
theorem dX11_slopeOf_65 : decode cX11_slopeOf 65 = .ok (.iconst 1, 1) := by decide +kernel
theorem dX11_slopeOf_66 : decode cX11_slopeOf 66 = .ok (.if_icmp .ne 18, 3) := by decide +kernel
theorem dX11_slopeOf_69 : decode cX11_slopeOf 69 = .ok (.aload_n 0, 1) := by decide +kernel
theorem dX11_slopeOf_70 : decode cX11_slopeOf 70 = .ok (.iload_n 2, 1) := by decide +kernel
theorem dX11_slopeOf_71 : decode cX11_slopeOf 71 = .ok (.aload_n 0, 1) := by decide +kernel
theorem dX11_slopeOf_72 : decode cX11_slopeOf 72 = .ok (.getfield 53, 3) := by decide +kernel
theorem dX11_slopeOf_75 : decode cX11_slopeOf 75 = .ok (.iload_n 3, 1) := by decide +kernel
theorem dX11_slopeOf_76 : decode cX11_slopeOf 76 = .ok (.iaload, 1) := by decide +kernel
theorem dX11_slopeOf_77 : decode cX11_slopeOf 77 = .ok (.iadd, 1) := by decide +kernel
theorem dX11_slopeOf_78 : decode cX11_slopeOf 78 = .ok (.invokevirtual 182, 3) := by decide +kernel
theorem dX11_slopeOf_81 : decode cX11_slopeOf 81 = .ok (.goto 4, 3) := by decide +kernel
theorem dX11_slopeOf_84 : decode cX11_slopeOf 84 = .ok (.iload_n 2, 1) := by decide +kernel
theorem dX11_slopeOf_85 : decode cX11_slopeOf 85 = .ok (.istore_n 2, 1) := by decide +kernel
theorem dX11_slopeOf_86 : decode cX11_slopeOf 86 = .ok (.iinc 3 (-1), 3) := by decide +kernel
theorem dX11_slopeOf_89 : decode cX11_slopeOf 89 = .ok (.goto (-40), 3) := by decide +kernel
theorem dX11_slopeOf_92 : decode cX11_slopeOf 92 = .ok (.iload_n 2, 1) := by decide +kernel
theorem dX11_slopeOf_93 : decode cX11_slopeOf 93 = .ok (.ireturn, 1) := by decide +kernel
theorem dX11_knows_0 : decode cX11_knows 0 = .ok (.iconst 0, 1) := by decide +kernel
theorem dX11_knows_1 : decode cX11_knows 1 = .ok (.istore_n 2, 1) := by decide +kernel
theorem dX11_knows_2 : decode cX11_knows 2 = .ok (.iload_n 2, 1) := by decide +kernel
theorem dX11_knows_3 : decode cX11_knows 3 = .ok (.iload_n 1, 1) := by decide +kernel
theorem dX11_knows_4 : decode cX11_knows 4 = .ok (.if_icmp .gt 135, 3) := by decide +kernel
theorem dX11_knows_7 : decode cX11_knows 7 = .ok (.iconst 0, 1) := by decide +kernel
theorem dX11_knows_8 : decode cX11_knows 8 = .ok (.istore_n 3, 1) := by decide +kernel
theorem dX11_knows_9 : decode cX11_knows 9 = .ok (.iload_n 3, 1) := by decide +kernel
theorem dX11_knows_10 : decode cX11_knows 10 = .ok (.aload_n 0, 1) := by decide +kernel
theorem dX11_knows_11 : decode cX11_knows 11 = .ok (.getfield 7, 3) := by decide +kernel
theorem dX11_knows_14 : decode cX11_knows 14 = .ok (.iconst 0, 1) := by decide +kernel
theorem dX11_knows_15 : decode cX11_knows 15 = .ok (.iaload, 1) := by decide +kernel
theorem dX11_knows_16 : decode cX11_knows 16 = .ok (.if_icmp .ge 117, 3) := by decide +kernel
theorem dX11_knows_19 : decode cX11_knows 19 = .ok (.aload_n 0, 1) := by decide +kernel
theorem dX11_knows_20 : decode cX11_knows 20 = .ok (.iload_n 2, 1) := by decide +kernel
theorem dX11_knows_21 : decode cX11_knows 21 = .ok (.iload_n 3, 1) := by decide +kernel
theorem dX11_knows_22 : decode cX11_knows 22 = .ok (.aload_n 0, 1) := by decide +kernel
theorem dX11_knows_23 : decode cX11_knows 23 = .ok (.iconst 1, 1) := by decide +kernel
theorem dX11_knows_24 : decode cX11_knows 24 = .ok (.invokevirtual 182, 3) := by decide +kernel
theorem dX11_knows_27 : decode cX11_knows 27 = .ok (.invokevirtual 200, 3) := by decide +kernel
theorem dX11_knows_30 : decode cX11_knows 30 = .ok (.aload_n 0, 1) := by decide +kernel
theorem dX11_knows_31 : decode cX11_knows 31 = .ok (.iload_n 2, 1) := by decide +kernel
theorem dX11_knows_32 : decode cX11_knows 32 = .ok (.invokevirtual 156, 3) := by decide +kernel
theorem dX11_knows_35 : decode cX11_knows 35 = .ok (.iconst 1, 1) := by decide +kernel
theorem dX11_knows_36 : decode cX11_knows 36 = .ok (.isub, 1) := by decide +kernel
theorem dX11_knows_37 : decode cX11_knows 37 = .ok (.istore 4, 2) := by decide +kernel
theorem dX11_knows_39 : decode cX11_knows 39 = .ok (.aload_n 0, 1) := by decide +kernel
theorem dX11_knows_40 : decode cX11_knows 40 = .ok (.getfield 32, 3) := by decide +kernel
theorem dX11_knows_43 : decode cX11_knows 43 = .ok (.sipush 199, 3) := by decide +kernel
theorem dX11_knows_46 : decode cX11_knows 46 = .ok (.iload_n 2, 1) := by decide +kernel
theorem dX11_knows_47 : decode cX11_knows 47 = .ok (.imul, 1) := by decide +kernel
theorem dX11_knows_48 : decode cX11_knows 48 = .ok (.iload_n 3, 1) := by decide +kernel
theorem dX11_knows_49 : decode cX11_knows 49 = .ok (.iadd, 1) := by decide +kernel
theorem dX11_knows_50 : decode cX11_knows 50 = .ok (.aload_n 0, 1) := by decide +kernel
theorem dX11_knows_51 : decode cX11_knows 51 = .ok (.getfield 185, 3) := by decide +kernel
theorem dX11_knows_54 : decode cX11_knows 54 = .ok (.ifCond .eq 7, 3) := by decide +kernel
theorem dX11_knows_57 : decode cX11_knows 57 = .ok (.iconst (-1), 1) := by decide +kernel
theorem dX11_knows_58 : decode cX11_knows 58 = .ok (.goto 10, 3) := by decide +kernel
theorem dX11_knows_61 : decode cX11_knows 61 = .ok (.aload_n 0, 1) := by decide +kernel
theorem dX11_knows_62 : decode cX11_knows 62 = .ok (.getfield 41, 3) := by decide +kernel
theorem dX11_knows_65 : decode cX11_knows 65 = .ok (.iload 4, 2) := by decide +kernel
theorem dX11_knows_67 : decode cX11_knows 67 = .ok (.iaload, 1) := by decide +kernel
theorem dX11_knows_68 : decode cX11_knows 68 = .ok (.iastore, 1) := by decide +kernel
theorem dX11_knows_69 : decode cX11_knows 69 = .ok (.aload_n 0, 1) := by decide +kernel
theorem dX11_knows_70 : decode cX11_knows 70 = .ok (.getfield 35, 3) := by decide +kernel
theorem dX11_knows_73 : decode cX11_knows 73 = .ok (.sipush 199, 3) := by decide +kernel
theorem dX11_knows_76 : decode cX11_knows 76 = .ok (.iload_n 2, 1) := by decide +kernel
theorem dX11_knows_77 : decode cX11_knows 77 = .ok (.imul, 1) := by decide +kernel
theorem dX11_knows_78 : decode cX11_knows 78 = .ok (.iload_n 3, 1) := by decide +kernel
theorem dX11_knows_79 : decode cX11_knows 79 = .ok (.iadd, 1) := by decide +kernel
theorem dX11_knows_80 : decode cX11_knows 80 = .ok (.aload_n 0, 1) := by decide +kernel
theorem dX11_knows_81 : decode cX11_knows 81 = .ok (.getfield 185, 3) := by decide +kernel
theorem dX11_knows_84 : decode cX11_knows 84 = .ok (.ifCond .eq 7, 3) := by decide +kernel
theorem dX11_knows_87 : decode cX11_knows 87 = .ok (.iconst (-1), 1) := by decide +kernel
theorem dX11_knows_88 : decode cX11_knows 88 = .ok (.goto 10, 3) := by decide +kernel
theorem dX11_knows_91 : decode cX11_knows 91 = .ok (.aload_n 0, 1) := by decide +kernel
theorem dX11_knows_92 : decode cX11_knows 92 = .ok (.getfield 44, 3) := by decide +kernel
theorem dX11_knows_95 : decode cX11_knows 95 = .ok (.iload 4, 2) := by decide +kernel
theorem dX11_knows_97 : decode cX11_knows 97 = .ok (.iaload, 1) := by decide +kernel
theorem dX11_knows_98 : decode cX11_knows 98 = .ok (.iastore, 1) := by decide +kernel
theorem dX11_knows_99 : decode cX11_knows 99 = .ok (.aload_n 0, 1) := by decide +kernel
theorem dX11_knows_100 : decode cX11_knows 100 = .ok (.getfield 38, 3) := by decide +kernel
theorem dX11_knows_103 : decode cX11_knows 103 = .ok (.sipush 199, 3) := by decide +kernel
theorem dX11_knows_106 : decode cX11_knows 106 = .ok (.iload_n 2, 1) := by decide +kernel
theorem dX11_knows_107 : decode cX11_knows 107 = .ok (.imul, 1) := by decide +kernel
theorem dX11_knows_108 : decode cX11_knows 108 = .ok (.iload_n 3, 1) := by decide +kernel
theorem dX11_knows_109 : decode cX11_knows 109 = .ok (.iadd, 1) := by decide +kernel
theorem dX11_knows_110 : decode cX11_knows 110 = .ok (.aload_n 0, 1) := by decide +kernel
theorem dX11_knows_111 : decode cX11_knows 111 = .ok (.getfield 185, 3) := by decide +kernel
theorem dX11_knows_114 : decode cX11_knows 114 = .ok (.ifCond .eq 7, 3) := by decide +kernel
theorem dX11_knows_117 : decode cX11_knows 117 = .ok (.iconst (-1), 1) := by decide +kernel
theorem dX11_knows_118 : decode cX11_knows 118 = .ok (.goto 8, 3) := by decide +kernel
theorem dX11_knows_121 : decode cX11_knows 121 = .ok (.aload_n 0, 1) := by decide +kernel
theorem dX11_knows_122 : decode cX11_knows 122 = .ok (.iload_n 2, 1) := by decide +kernel
theorem dX11_knows_123 : decode cX11_knows 123 = .ok (.invokevirtual 204, 3) := by decide +kernel
theorem dX11_knows_126 : decode cX11_knows 126 = .ok (.iastore, 1) := by decide +kernel
theorem dX11_knows_127 : decode cX11_knows 127 = .ok (.iinc 3 1, 3) := by decide +kernel
theorem dX11_knows_130 : decode cX11_knows 130 = .ok (.goto (-121), 3) := by decide +kernel
theorem dX11_knows_133 : decode cX11_knows 133 = .ok (.iinc 2 1, 3) := by decide +kernel
theorem dX11_knows_136 : decode cX11_knows 136 = .ok (.goto (-134), 3) := by decide +kernel
theorem dX11_knows_139 : decode cX11_knows 139 = .ok (.return_, 1) := by decide +kernel
theorem dX11_modulus_0 : decode cX11_modulus 0 = .ok (.aload_n 0, 1) := by decide +kernel
theorem dX11_modulus_1 : decode cX11_modulus 1 = .ok (.aload_n 0, 1) := by decide +kernel
theorem dX11_modulus_2 : decode cX11_modulus 2 = .ok (.getfield 7, 3) := by decide +kernel
theorem dX11_modulus_5 : decode cX11_modulus 5 = .ok (.iconst 0, 1) := by decide +kernel
theorem dX11_modulus_6 : decode cX11_modulus 6 = .ok (.iaload, 1) := by decide +kernel
theorem dX11_modulus_7 : decode cX11_modulus 7 = .ok (.invokevirtual 74, 3) := by decide +kernel
theorem dX11_modulus_10 : decode cX11_modulus 10 = .ok (.ireturn, 1) := by decide +kernel
theorem dX11_asksAt_0 : decode cX11_asksAt 0 = .ok (.aload_n 0, 1) := by decide +kernel
theorem dX11_asksAt_1 : decode cX11_asksAt 1 = .ok (.iload_n 1, 1) := by decide +kernel
theorem dX11_asksAt_2 : decode cX11_asksAt 2 = .ok (.invokestatic 146, 3) := by decide +kernel
theorem dX11_asksAt_5 : decode cX11_asksAt 5 = .ok (.invokevirtual 66, 3) := by decide +kernel
theorem dX11_asksAt_8 : decode cX11_asksAt 8 = .ok (.pop, 1) := by decide +kernel
theorem dX11_asksAt_9 : decode cX11_asksAt 9 = .ok (.aload_n 0, 1) := by decide +kernel
theorem dX11_asksAt_10 : decode cX11_asksAt 10 = .ok (.iload_n 2, 1) := by decide +kernel
theorem dX11_asksAt_11 : decode cX11_asksAt 11 = .ok (.iconst 0, 1) := by decide +kernel
theorem dX11_asksAt_12 : decode cX11_asksAt 12 = .ok (.aload_n 0, 1) := by decide +kernel
theorem dX11_asksAt_13 : decode cX11_asksAt 13 = .ok (.getfield 7, 3) := by decide +kernel
theorem dX11_asksAt_16 : decode cX11_asksAt 16 = .ok (.iconst 0, 1) := by decide +kernel
theorem dX11_asksAt_17 : decode cX11_asksAt 17 = .ok (.iaload, 1) := by decide +kernel
theorem dX11_asksAt_18 : decode cX11_asksAt 18 = .ok (.iconst 1, 1) := by decide +kernel
theorem dX11_asksAt_19 : decode cX11_asksAt 19 = .ok (.isub, 1) := by decide +kernel
theorem dX11_asksAt_20 : decode cX11_asksAt 20 = .ok (.invokestatic 101, 3) := by decide +kernel
theorem dX11_asksAt_23 : decode cX11_asksAt 23 = .ok (.iconst 2, 1) := by decide +kernel
theorem dX11_asksAt_24 : decode cX11_asksAt 24 = .ok (.invokevirtual 149, 3) := by decide +kernel
theorem dX11_asksAt_27 : decode cX11_asksAt 27 = .ok (.istore_n 3, 1) := by decide +kernel
theorem dX11_asksAt_28 : decode cX11_asksAt 28 = .ok (.iload_n 3, 1) := by decide +kernel
theorem dX11_asksAt_29 : decode cX11_asksAt 29 = .ok (.ifCond .eq 8, 3) := by decide +kernel
theorem dX11_asksAt_32 : decode cX11_asksAt 32 = .ok (.aload_n 0, 1) := by decide +kernel
theorem dX11_asksAt_33 : decode cX11_asksAt 33 = .ok (.iload_n 1, 1) := by decide +kernel
theorem dX11_asksAt_34 : decode cX11_asksAt 34 = .ok (.invokevirtual 207, 3) := by decide +kernel
theorem dX11_asksAt_37 : decode cX11_asksAt 37 = .ok (.iload_n 3, 1) := by decide +kernel
theorem dX11_asksAt_38 : decode cX11_asksAt 38 = .ok (.ireturn, 1) := by decide +kernel
theorem dX11_valueAt_0 : decode cX11_valueAt 0 = .ok (.aload_n 0, 1) := by decide +kernel
theorem dX11_valueAt_1 : decode cX11_valueAt 1 = .ok (.iload_n 1, 1) := by decide +kernel
theorem dX11_valueAt_2 : decode cX11_valueAt 2 = .ok (.iload_n 2, 1) := by decide +kernel
theorem dX11_valueAt_3 : decode cX11_valueAt 3 = .ok (.invokevirtual 210, 3) := by decide +kernel
theorem dX11_valueAt_6 : decode cX11_valueAt 6 = .ok (.ifCond .eq 18, 3) := by decide +kernel
theorem dX11_valueAt_9 : decode cX11_valueAt 9 = .ok (.aload_n 0, 1) := by decide +kernel
theorem dX11_valueAt_10 : decode cX11_valueAt 10 = .ok (.getfield 32, 3) := by decide +kernel
theorem dX11_valueAt_13 : decode cX11_valueAt 13 = .ok (.sipush 199, 3) := by decide +kernel
theorem dX11_valueAt_16 : decode cX11_valueAt 16 = .ok (.iload_n 1, 1) := by decide +kernel
theorem dX11_valueAt_17 : decode cX11_valueAt 17 = .ok (.imul, 1) := by decide +kernel
theorem dX11_valueAt_18 : decode cX11_valueAt 18 = .ok (.iload_n 2, 1) := by decide +kernel
theorem dX11_valueAt_19 : decode cX11_valueAt 19 = .ok (.iadd, 1) := by decide +kernel
theorem dX11_valueAt_20 : decode cX11_valueAt 20 = .ok (.iaload, 1) := by decide +kernel
theorem dX11_valueAt_21 : decode cX11_valueAt 21 = .ok (.goto 4, 3) := by decide +kernel
theorem dX11_valueAt_24 : decode cX11_valueAt 24 = .ok (.iconst 0, 1) := by decide +kernel
theorem dX11_valueAt_25 : decode cX11_valueAt 25 = .ok (.ireturn, 1) := by decide +kernel
theorem dX11_slopeByHinges_0 : decode cX11_slopeByHinges 0 = .ok (.aload_n 0, 1) := by decide +kernel
theorem dX11_slopeByHinges_1 : decode cX11_slopeByHinges 1 = .ok (.iload_n 1, 1) := by decide +kernel
theorem dX11_slopeByHinges_2 : decode cX11_slopeByHinges 2 = .ok (.iload_n 2, 1) := by decide +kernel
theorem dX11_slopeByHinges_3 : decode cX11_slopeByHinges 3 = .ok (.invokevirtual 210, 3) := by decide +kernel
theorem dX11_slopeByHinges_6 : decode cX11_slopeByHinges 6 = .ok (.ifCond .eq 18, 3) := by decide +kernel
theorem dX11_slopeByHinges_9 : decode cX11_slopeByHinges 9 = .ok (.aload_n 0, 1) := by decide +kernel
theorem dX11_slopeByHinges_10 : decode cX11_slopeByHinges 10 = .ok (.getfield 35, 3) := by decide +kernel
theorem dX11_slopeByHinges_13 : decode cX11_slopeByHinges 13 = .ok (.sipush 199, 3) := by decide +kernel
theorem dX11_slopeByHinges_16 : decode cX11_slopeByHinges 16 = .ok (.iload_n 1, 1) := by decide +kernel
theorem dX11_slopeByHinges_17 : decode cX11_slopeByHinges 17 = .ok (.imul, 1) := by decide +kernel
theorem dX11_slopeByHinges_18 : decode cX11_slopeByHinges 18 = .ok (.iload_n 2, 1) := by decide +kernel
theorem dX11_slopeByHinges_19 : decode cX11_slopeByHinges 19 = .ok (.iadd, 1) := by decide +kernel
theorem dX11_slopeByHinges_20 : decode cX11_slopeByHinges 20 = .ok (.iaload, 1) := by decide +kernel
theorem dX11_slopeByHinges_21 : decode cX11_slopeByHinges 21 = .ok (.goto 4, 3) := by decide +kernel
theorem dX11_slopeByHinges_24 : decode cX11_slopeByHinges 24 = .ok (.iconst 0, 1) := by decide +kernel
theorem dX11_slopeByHinges_25 : decode cX11_slopeByHinges 25 = .ok (.ireturn, 1) := by decide +kernel
theorem dX11_slopeByRules_0 : decode cX11_slopeByRules 0 = .ok (.aload_n 0, 1) := by decide +kernel
theorem dX11_slopeByRules_1 : decode cX11_slopeByRules 1 = .ok (.iload_n 1, 1) := by decide +kernel
theorem dX11_slopeByRules_2 : decode cX11_slopeByRules 2 = .ok (.iload_n 2, 1) := by decide +kernel
theorem dX11_slopeByRules_3 : decode cX11_slopeByRules 3 = .ok (.invokevirtual 210, 3) := by decide +kernel
theorem dX11_slopeByRules_6 : decode cX11_slopeByRules 6 = .ok (.ifCond .eq 18, 3) := by decide +kernel
theorem dX11_slopeByRules_9 : decode cX11_slopeByRules 9 = .ok (.aload_n 0, 1) := by decide +kernel
theorem dX11_slopeByRules_10 : decode cX11_slopeByRules 10 = .ok (.getfield 38, 3) := by decide +kernel
theorem dX11_slopeByRules_13 : decode cX11_slopeByRules 13 = .ok (.sipush 199, 3) := by decide +kernel
theorem dX11_slopeByRules_16 : decode cX11_slopeByRules 16 = .ok (.iload_n 1, 1) := by decide +kernel
theorem dX11_slopeByRules_17 : decode cX11_slopeByRules 17 = .ok (.imul, 1) := by decide +kernel
theorem dX11_slopeByRules_18 : decode cX11_slopeByRules 18 = .ok (.iload_n 2, 1) := by decide +kernel
theorem dX11_slopeByRules_19 : decode cX11_slopeByRules 19 = .ok (.iadd, 1) := by decide +kernel
theorem dX11_slopeByRules_20 : decode cX11_slopeByRules 20 = .ok (.iaload, 1) := by decide +kernel
theorem dX11_slopeByRules_21 : decode cX11_slopeByRules 21 = .ok (.goto 4, 3) := by decide +kernel
theorem dX11_slopeByRules_24 : decode cX11_slopeByRules 24 = .ok (.iconst 0, 1) := by decide +kernel
theorem dX11_slopeByRules_25 : decode cX11_slopeByRules 25 = .ok (.ireturn, 1) := by decide +kernel
theorem dX11_asksChain_0 : decode cX11_asksChain 0 = .ok (.aload_n 0, 1) := by decide +kernel
theorem dX11_asksChain_1 : decode cX11_asksChain 1 = .ok (.iload_n 1, 1) := by decide +kernel
theorem dX11_asksChain_2 : decode cX11_asksChain 2 = .ok (.invokestatic 146, 3) := by decide +kernel
theorem dX11_asksChain_5 : decode cX11_asksChain 5 = .ok (.ifCond .eq 14, 3) := by decide +kernel
theorem dX11_asksChain_8 : decode cX11_asksChain 8 = .ok (.iload_n 2, 1) := by decide +kernel
theorem dX11_asksChain_9 : decode cX11_asksChain 9 = .ok (.invokestatic 146, 3) := by decide +kernel
theorem dX11_asksChain_12 : decode cX11_asksChain 12 = .ok (.ifCond .eq 7, 3) := by decide +kernel
theorem dX11_asksChain_15 : decode cX11_asksChain 15 = .ok (.iconst 1, 1) := by decide +kernel
theorem dX11_asksChain_16 : decode cX11_asksChain 16 = .ok (.goto 4, 3) := by decide +kernel
theorem dX11_asksChain_19 : decode cX11_asksChain 19 = .ok (.iconst 0, 1) := by decide +kernel
theorem dX11_asksChain_20 : decode cX11_asksChain 20 = .ok (.invokevirtual 66, 3) := by decide +kernel
theorem dX11_asksChain_23 : decode cX11_asksChain 23 = .ok (.pop, 1) := by decide +kernel
theorem dX11_asksChain_24 : decode cX11_asksChain 24 = .ok (.aload_n 0, 1) := by decide +kernel
theorem dX11_asksChain_25 : decode cX11_asksChain 25 = .ok (.iload_n 3, 1) := by decide +kernel
theorem dX11_asksChain_26 : decode cX11_asksChain 26 = .ok (.iconst 0, 1) := by decide +kernel
theorem dX11_asksChain_27 : decode cX11_asksChain 27 = .ok (.aload_n 0, 1) := by decide +kernel
theorem dX11_asksChain_28 : decode cX11_asksChain 28 = .ok (.getfield 7, 3) := by decide +kernel
theorem dX11_asksChain_31 : decode cX11_asksChain 31 = .ok (.iconst 0, 1) := by decide +kernel
theorem dX11_asksChain_32 : decode cX11_asksChain 32 = .ok (.iaload, 1) := by decide +kernel
theorem dX11_asksChain_33 : decode cX11_asksChain 33 = .ok (.iconst 1, 1) := by decide +kernel
theorem dX11_asksChain_34 : decode cX11_asksChain 34 = .ok (.isub, 1) := by decide +kernel
theorem dX11_asksChain_35 : decode cX11_asksChain 35 = .ok (.invokestatic 101, 3) := by decide +kernel
theorem dX11_asksChain_38 : decode cX11_asksChain 38 = .ok (.iconst 2, 1) := by decide +kernel
theorem dX11_asksChain_39 : decode cX11_asksChain 39 = .ok (.invokevirtual 149, 3) := by decide +kernel
theorem dX11_asksChain_42 : decode cX11_asksChain 42 = .ok (.istore 4, 2) := by decide +kernel
theorem dX11_asksChain_44 : decode cX11_asksChain 44 = .ok (.iload 4, 2) := by decide +kernel
theorem dX11_asksChain_46 : decode cX11_asksChain 46 = .ok (.ifCond .eq 17, 3) := by decide +kernel
theorem dX11_asksChain_49 : decode cX11_asksChain 49 = .ok (.aload_n 0, 1) := by decide +kernel
theorem dX11_asksChain_50 : decode cX11_asksChain 50 = .ok (.iload_n 1, 1) := by decide +kernel
theorem dX11_asksChain_51 : decode cX11_asksChain 51 = .ok (.iload_n 2, 1) := by decide +kernel
theorem dX11_asksChain_52 : decode cX11_asksChain 52 = .ok (.if_icmp .le 7, 3) := by decide +kernel
theorem dX11_asksChain_55 : decode cX11_asksChain 55 = .ok (.iload_n 1, 1) := by decide +kernel
theorem dX11_asksChain_56 : decode cX11_asksChain 56 = .ok (.goto 4, 3) := by decide +kernel
theorem dX11_asksChain_59 : decode cX11_asksChain 59 = .ok (.iload_n 2, 1) := by decide +kernel
theorem dX11_asksChain_60 : decode cX11_asksChain 60 = .ok (.invokevirtual 207, 3) := by decide +kernel
theorem dX11_asksChain_63 : decode cX11_asksChain 63 = .ok (.iload 4, 2) := by decide +kernel
theorem dX11_asksChain_65 : decode cX11_asksChain 65 = .ok (.ireturn, 1) := by decide +kernel
theorem dX11_chainByProducts_0 : decode cX11_chainByProducts 0 = .ok (.aload_n 0, 1) := by decide +kernel
theorem dX11_chainByProducts_1 : decode cX11_chainByProducts 1 = .ok (.iload_n 1, 1) := by decide +kernel
theorem dX11_chainByProducts_2 : decode cX11_chainByProducts 2 = .ok (.iload_n 2, 1) := by decide +kernel
theorem dX11_chainByProducts_3 : decode cX11_chainByProducts 3 = .ok (.iload_n 3, 1) := by decide +kernel
theorem dX11_chainByProducts_4 : decode cX11_chainByProducts 4 = .ok (.invokevirtual 214, 3) := by decide +kernel
theorem dX11_chainByProducts_7 : decode cX11_chainByProducts 7 = .ok (.ifCond .ne 5, 3) := by decide +kernel
theorem dX11_chainByProducts_10 : decode cX11_chainByProducts 10 = .ok (.iconst 0, 1) := by decide +kernel
theorem dX11_chainByProducts_11 : decode cX11_chainByProducts 11 = .ok (.ireturn, 1) := by decide +kernel
theorem dX11_chainByProducts_12 : decode cX11_chainByProducts 12 = .ok (.aload_n 0, 1) := by decide +kernel
theorem dX11_chainByProducts_13 : decode cX11_chainByProducts 13 = .ok (.getfield 32, 3) := by decide +kernel
theorem dX11_chainByProducts_16 : decode cX11_chainByProducts 16 = .ok (.sipush 199, 3) := by decide +kernel
theorem dX11_chainByProducts_19 : decode cX11_chainByProducts 19 = .ok (.iload_n 2, 1) := by decide +kernel
theorem dX11_chainByProducts_20 : decode cX11_chainByProducts 20 = .ok (.imul, 1) := by decide +kernel
theorem dX11_chainByProducts_21 : decode cX11_chainByProducts 21 = .ok (.iload_n 3, 1) := by decide +kernel
theorem dX11_chainByProducts_22 : decode cX11_chainByProducts 22 = .ok (.iadd, 1) := by decide +kernel
theorem dX11_chainByProducts_23 : decode cX11_chainByProducts 23 = .ok (.iaload, 1) := by decide +kernel
theorem dX11_chainByProducts_24 : decode cX11_chainByProducts 24 = .ok (.istore 4, 2) := by decide +kernel
theorem dX11_chainByProducts_26 : decode cX11_chainByProducts 26 = .ok (.iload 4, 2) := by decide +kernel
theorem dX11_chainByProducts_28 : decode cX11_chainByProducts 28 = .ok (.iconst (-1), 1) := by decide +kernel
theorem dX11_chainByProducts_29 : decode cX11_chainByProducts 29 = .ok (.if_icmp .eq 24, 3) := by decide +kernel
theorem dX11_chainByProducts_32 : decode cX11_chainByProducts 32 = .ok (.aload_n 0, 1) := by decide +kernel
theorem dX11_chainByProducts_33 : decode cX11_chainByProducts 33 = .ok (.getfield 32, 3) := by decide +kernel
theorem dX11_chainByProducts_36 : decode cX11_chainByProducts 36 = .ok (.sipush 199, 3) := by decide +kernel
theorem dX11_chainByProducts_39 : decode cX11_chainByProducts 39 = .ok (.iload_n 1, 1) := by decide +kernel
theorem dX11_chainByProducts_40 : decode cX11_chainByProducts 40 = .ok (.imul, 1) := by decide +kernel
theorem dX11_chainByProducts_41 : decode cX11_chainByProducts 41 = .ok (.iload 4, 2) := by decide +kernel
theorem dX11_chainByProducts_43 : decode cX11_chainByProducts 43 = .ok (.iadd, 1) := by decide +kernel
theorem dX11_chainByProducts_44 : decode cX11_chainByProducts 44 = .ok (.iaload, 1) := by decide +kernel
theorem dX11_chainByProducts_45 : decode cX11_chainByProducts 45 = .ok (.iconst (-1), 1) := by decide +kernel
theorem dX11_chainByProducts_46 : decode cX11_chainByProducts 46 = .ok (.if_icmp .eq 7, 3) := by decide +kernel
theorem dX11_chainByProducts_49 : decode cX11_chainByProducts 49 = .ok (.iconst 1, 1) := by decide +kernel
theorem dX11_chainByProducts_50 : decode cX11_chainByProducts 50 = .ok (.goto 4, 3) := by decide +kernel
theorem dX11_chainByProducts_53 : decode cX11_chainByProducts 53 = .ok (.iconst 0, 1) := by decide +kernel
theorem dX11_chainByProducts_54 : decode cX11_chainByProducts 54 = .ok (.istore 5, 2) := by decide +kernel
theorem dX11_chainByProducts_56 : decode cX11_chainByProducts 56 = .ok (.iload 5, 2) := by decide +kernel
theorem dX11_chainByProducts_58 : decode cX11_chainByProducts 58 = .ok (.ifCond .eq 36, 3) := by decide +kernel
theorem dX11_chainByProducts_61 : decode cX11_chainByProducts 61 = .ok (.aload_n 0, 1) := by decide +kernel
theorem dX11_chainByProducts_62 : decode cX11_chainByProducts 62 = .ok (.aload_n 0, 1) := by decide +kernel
theorem dX11_chainByProducts_63 : decode cX11_chainByProducts 63 = .ok (.getfield 38, 3) := by decide +kernel
theorem dX11_chainByProducts_66 : decode cX11_chainByProducts 66 = .ok (.sipush 199, 3) := by decide +kernel
theorem dX11_chainByProducts_69 : decode cX11_chainByProducts 69 = .ok (.iload_n 1, 1) := by decide +kernel
theorem dX11_chainByProducts_70 : decode cX11_chainByProducts 70 = .ok (.imul, 1) := by decide +kernel
theorem dX11_chainByProducts_71 : decode cX11_chainByProducts 71 = .ok (.iload 4, 2) := by decide +kernel
theorem dX11_chainByProducts_73 : decode cX11_chainByProducts 73 = .ok (.iadd, 1) := by decide +kernel
theorem dX11_chainByProducts_74 : decode cX11_chainByProducts 74 = .ok (.iaload, 1) := by decide +kernel
theorem dX11_chainByProducts_75 : decode cX11_chainByProducts 75 = .ok (.aload_n 0, 1) := by decide +kernel
theorem dX11_chainByProducts_76 : decode cX11_chainByProducts 76 = .ok (.getfield 38, 3) := by decide +kernel
theorem dX11_chainByProducts_79 : decode cX11_chainByProducts 79 = .ok (.sipush 199, 3) := by decide +kernel
theorem dX11_chainByProducts_82 : decode cX11_chainByProducts 82 = .ok (.iload_n 2, 1) := by decide +kernel
theorem dX11_chainByProducts_83 : decode cX11_chainByProducts 83 = .ok (.imul, 1) := by decide +kernel
theorem dX11_chainByProducts_84 : decode cX11_chainByProducts 84 = .ok (.iload_n 3, 1) := by decide +kernel
theorem dX11_chainByProducts_85 : decode cX11_chainByProducts 85 = .ok (.iadd, 1) := by decide +kernel
theorem dX11_chainByProducts_86 : decode cX11_chainByProducts 86 = .ok (.iaload, 1) := by decide +kernel
theorem dX11_chainByProducts_87 : decode cX11_chainByProducts 87 = .ok (.imul, 1) := by decide +kernel
theorem dX11_chainByProducts_88 : decode cX11_chainByProducts 88 = .ok (.invokevirtual 182, 3) := by decide +kernel
theorem dX11_chainByProducts_91 : decode cX11_chainByProducts 91 = .ok (.goto 4, 3) := by decide +kernel
theorem dX11_chainByProducts_94 : decode cX11_chainByProducts 94 = .ok (.iconst (-1), 1) := by decide +kernel
theorem dX11_chainByProducts_95 : decode cX11_chainByProducts 95 = .ok (.ireturn, 1) := by decide +kernel
theorem dX11_chainByFeeding_0 : decode cX11_chainByFeeding 0 = .ok (.aload_n 0, 1) := by decide +kernel
theorem dX11_chainByFeeding_1 : decode cX11_chainByFeeding 1 = .ok (.iload_n 1, 1) := by decide +kernel
theorem dX11_chainByFeeding_2 : decode cX11_chainByFeeding 2 = .ok (.iload_n 2, 1) := by decide +kernel
theorem dX11_chainByFeeding_3 : decode cX11_chainByFeeding 3 = .ok (.iload_n 3, 1) := by decide +kernel
theorem dX11_chainByFeeding_4 : decode cX11_chainByFeeding 4 = .ok (.invokevirtual 214, 3) := by decide +kernel
theorem dX11_chainByFeeding_7 : decode cX11_chainByFeeding 7 = .ok (.ifCond .ne 5, 3) := by decide +kernel
theorem dX11_chainByFeeding_10 : decode cX11_chainByFeeding 10 = .ok (.iconst 0, 1) := by decide +kernel
theorem dX11_chainByFeeding_11 : decode cX11_chainByFeeding 11 = .ok (.ireturn, 1) := by decide +kernel
theorem dX11_chainByFeeding_12 : decode cX11_chainByFeeding 12 = .ok (.aload_n 0, 1) := by decide +kernel
theorem dX11_chainByFeeding_13 : decode cX11_chainByFeeding 13 = .ok (.getfield 32, 3) := by decide +kernel
theorem dX11_chainByFeeding_16 : decode cX11_chainByFeeding 16 = .ok (.sipush 199, 3) := by decide +kernel
theorem dX11_chainByFeeding_19 : decode cX11_chainByFeeding 19 = .ok (.iload_n 2, 1) := by decide +kernel
theorem dX11_chainByFeeding_20 : decode cX11_chainByFeeding 20 = .ok (.imul, 1) := by decide +kernel
theorem dX11_chainByFeeding_21 : decode cX11_chainByFeeding 21 = .ok (.iload_n 3, 1) := by decide +kernel
theorem dX11_chainByFeeding_22 : decode cX11_chainByFeeding 22 = .ok (.iadd, 1) := by decide +kernel
theorem dX11_chainByFeeding_23 : decode cX11_chainByFeeding 23 = .ok (.iaload, 1) := by decide +kernel
theorem dX11_chainByFeeding_24 : decode cX11_chainByFeeding 24 = .ok (.istore 4, 2) := by decide +kernel
theorem dX11_chainByFeeding_26 : decode cX11_chainByFeeding 26 = .ok (.iload 4, 2) := by decide +kernel
theorem dX11_chainByFeeding_28 : decode cX11_chainByFeeding 28 = .ok (.iconst (-1), 1) := by decide +kernel
theorem dX11_chainByFeeding_29 : decode cX11_chainByFeeding 29 = .ok (.if_icmp .ne 5, 3) := by decide +kernel
theorem dX11_chainByFeeding_32 : decode cX11_chainByFeeding 32 = .ok (.iconst (-1), 1) := by decide +kernel
theorem dX11_chainByFeeding_33 : decode cX11_chainByFeeding 33 = .ok (.ireturn, 1) := by decide +kernel
theorem dX11_chainByFeeding_34 : decode cX11_chainByFeeding 34 = .ok (.aload_n 0, 1) := by decide +kernel
theorem dX11_chainByFeeding_35 : decode cX11_chainByFeeding 35 = .ok (.iload_n 1, 1) := by decide +kernel
theorem dX11_chainByFeeding_36 : decode cX11_chainByFeeding 36 = .ok (.iload 4, 2) := by decide +kernel
theorem dX11_chainByFeeding_38 : decode cX11_chainByFeeding 38 = .ok (.aload_n 0, 1) := by decide +kernel
theorem dX11_chainByFeeding_39 : decode cX11_chainByFeeding 39 = .ok (.getfield 35, 3) := by decide +kernel
theorem dX11_chainByFeeding_42 : decode cX11_chainByFeeding 42 = .ok (.sipush 199, 3) := by decide +kernel
theorem dX11_chainByFeeding_45 : decode cX11_chainByFeeding 45 = .ok (.iload_n 2, 1) := by decide +kernel
theorem dX11_chainByFeeding_46 : decode cX11_chainByFeeding 46 = .ok (.imul, 1) := by decide +kernel
theorem dX11_chainByFeeding_47 : decode cX11_chainByFeeding 47 = .ok (.iload_n 3, 1) := by decide +kernel
theorem dX11_chainByFeeding_48 : decode cX11_chainByFeeding 48 = .ok (.iadd, 1) := by decide +kernel
theorem dX11_chainByFeeding_49 : decode cX11_chainByFeeding 49 = .ok (.iaload, 1) := by decide +kernel
theorem dX11_chainByFeeding_50 : decode cX11_chainByFeeding 50 = .ok (.invokevirtual 200, 3) := by decide +kernel
theorem dX11_chainByFeeding_53 : decode cX11_chainByFeeding 53 = .ok (.aload_n 0, 1) := by decide +kernel
theorem dX11_chainByFeeding_54 : decode cX11_chainByFeeding 54 = .ok (.getfield 185, 3) := by decide +kernel
theorem dX11_chainByFeeding_57 : decode cX11_chainByFeeding 57 = .ok (.ifCond .eq 7, 3) := by decide +kernel
theorem dX11_chainByFeeding_60 : decode cX11_chainByFeeding 60 = .ok (.iconst (-1), 1) := by decide +kernel
theorem dX11_chainByFeeding_61 : decode cX11_chainByFeeding 61 = .ok (.goto 15, 3) := by decide +kernel
theorem dX11_chainByFeeding_64 : decode cX11_chainByFeeding 64 = .ok (.aload_n 0, 1) := by decide +kernel
theorem dX11_chainByFeeding_65 : decode cX11_chainByFeeding 65 = .ok (.getfield 44, 3) := by decide +kernel
theorem dX11_chainByFeeding_68 : decode cX11_chainByFeeding 68 = .ok (.aload_n 0, 1) := by decide +kernel
theorem dX11_chainByFeeding_69 : decode cX11_chainByFeeding 69 = .ok (.iload_n 1, 1) := by decide +kernel
theorem dX11_chainByFeeding_70 : decode cX11_chainByFeeding 70 = .ok (.invokevirtual 156, 3) := by decide +kernel
theorem dX11_chainByFeeding_73 : decode cX11_chainByFeeding 73 = .ok (.iconst 1, 1) := by decide +kernel
theorem dX11_chainByFeeding_74 : decode cX11_chainByFeeding 74 = .ok (.isub, 1) := by decide +kernel
theorem dX11_chainByFeeding_75 : decode cX11_chainByFeeding 75 = .ok (.iaload, 1) := by decide +kernel
theorem dX11_chainByFeeding_76 : decode cX11_chainByFeeding 76 = .ok (.ireturn, 1) := by decide +kernel
theorem dX11_asksAll_0 : decode cX11_asksAll 0 = .ok (.aload_n 0, 1) := by decide +kernel
theorem dX11_asksAll_1 : decode cX11_asksAll 1 = .ok (.iload_n 1, 1) := by decide +kernel
theorem dX11_asksAll_2 : decode cX11_asksAll 2 = .ok (.invokestatic 146, 3) := by decide +kernel
theorem dX11_asksAll_5 : decode cX11_asksAll 5 = .ok (.invokevirtual 66, 3) := by decide +kernel
theorem dX11_asksAll_8 : decode cX11_asksAll 8 = .ok (.ifCond .eq 8, 3) := by decide +kernel
theorem dX11_asksAll_11 : decode cX11_asksAll 11 = .ok (.aload_n 0, 1) := by decide +kernel
theorem dX11_asksAll_12 : decode cX11_asksAll 12 = .ok (.iload_n 1, 1) := by decide +kernel
theorem dX11_asksAll_13 : decode cX11_asksAll 13 = .ok (.invokevirtual 207, 3) := by decide +kernel
theorem dX11_asksAll_16 : decode cX11_asksAll 16 = .ok (.aload_n 0, 1) := by decide +kernel
theorem dX11_asksAll_17 : decode cX11_asksAll 17 = .ok (.getfield 59, 3) := by decide +kernel
theorem dX11_asksAll_20 : decode cX11_asksAll 20 = .ok (.ifCond .ne 7, 3) := by decide +kernel
theorem dX11_asksAll_23 : decode cX11_asksAll 23 = .ok (.iconst 1, 1) := by decide +kernel
theorem dX11_asksAll_24 : decode cX11_asksAll 24 = .ok (.goto 4, 3) := by decide +kernel
theorem dX11_asksAll_27 : decode cX11_asksAll 27 = .ok (.iconst 0, 1) := by decide +kernel
theorem dX11_asksAll_28 : decode cX11_asksAll 28 = .ok (.ireturn, 1) := by decide +kernel
theorem dX11_bansOf_0 : decode cX11_bansOf 0 = .ok (.iconst 0, 1) := by decide +kernel
theorem dX11_bansOf_1 : decode cX11_bansOf 1 = .ok (.istore_n 2, 1) := by decide +kernel
theorem dX11_bansOf_2 : decode cX11_bansOf 2 = .ok (.aload_n 0, 1) := by decide +kernel
theorem dX11_bansOf_3 : decode cX11_bansOf 3 = .ok (.iload_n 1, 1) := by decide +kernel
theorem dX11_bansOf_4 : decode cX11_bansOf 4 = .ok (.invokevirtual 217, 3) := by decide +kernel
theorem dX11_bansOf_7 : decode cX11_bansOf 7 = .ok (.istore_n 3, 1) := by decide +kernel
theorem dX11_bansOf_8 : decode cX11_bansOf 8 = .ok (.iconst 0, 1) := by decide +kernel
theorem dX11_bansOf_9 : decode cX11_bansOf 9 = .ok (.istore 4, 2) := by decide +kernel
theorem dX11_bansOf_11 : decode cX11_bansOf 11 = .ok (.iload_n 3, 1) := by decide +kernel
theorem dX11_bansOf_12 : decode cX11_bansOf 12 = .ok (.ifCond .eq 45, 3) := by decide +kernel
theorem dX11_bansOf_15 : decode cX11_bansOf 15 = .ok (.iload 4, 2) := by decide +kernel
theorem dX11_bansOf_17 : decode cX11_bansOf 17 = .ok (.aload_n 0, 1) := by decide +kernel
theorem dX11_bansOf_18 : decode cX11_bansOf 18 = .ok (.getfield 7, 3) := by decide +kernel
theorem dX11_bansOf_21 : decode cX11_bansOf 21 = .ok (.iconst 0, 1) := by decide +kernel
theorem dX11_bansOf_22 : decode cX11_bansOf 22 = .ok (.iaload, 1) := by decide +kernel
theorem dX11_bansOf_23 : decode cX11_bansOf 23 = .ok (.if_icmp .ge 34, 3) := by decide +kernel
theorem dX11_bansOf_26 : decode cX11_bansOf 26 = .ok (.iload_n 2, 1) := by decide +kernel
theorem dX11_bansOf_27 : decode cX11_bansOf 27 = .ok (.aload_n 0, 1) := by decide +kernel
theorem dX11_bansOf_28 : decode cX11_bansOf 28 = .ok (.getfield 32, 3) := by decide +kernel
theorem dX11_bansOf_31 : decode cX11_bansOf 31 = .ok (.sipush 199, 3) := by decide +kernel
theorem dX11_bansOf_34 : decode cX11_bansOf 34 = .ok (.iload_n 1, 1) := by decide +kernel
theorem dX11_bansOf_35 : decode cX11_bansOf 35 = .ok (.imul, 1) := by decide +kernel
theorem dX11_bansOf_36 : decode cX11_bansOf 36 = .ok (.iload 4, 2) := by decide +kernel
theorem dX11_bansOf_38 : decode cX11_bansOf 38 = .ok (.iadd, 1) := by decide +kernel
theorem dX11_bansOf_39 : decode cX11_bansOf 39 = .ok (.iaload, 1) := by decide +kernel
theorem dX11_bansOf_40 : decode cX11_bansOf 40 = .ok (.iconst (-1), 1) := by decide +kernel
theorem dX11_bansOf_41 : decode cX11_bansOf 41 = .ok (.if_icmp .ne 7, 3) := by decide +kernel
theorem dX11_bansOf_44 : decode cX11_bansOf 44 = .ok (.iconst 1, 1) := by decide +kernel
theorem dX11_bansOf_45 : decode cX11_bansOf 45 = .ok (.goto 4, 3) := by decide +kernel
theorem dX11_bansOf_48 : decode cX11_bansOf 48 = .ok (.iconst 0, 1) := by decide +kernel
theorem dX11_bansOf_49 : decode cX11_bansOf 49 = .ok (.iadd, 1) := by decide +kernel
theorem dX11_bansOf_50 : decode cX11_bansOf 50 = .ok (.istore_n 2, 1) := by decide +kernel
theorem dX11_bansOf_51 : decode cX11_bansOf 51 = .ok (.iinc 4 1, 3) := by decide +kernel
theorem dX11_bansOf_54 : decode cX11_bansOf 54 = .ok (.goto (-43), 3) := by decide +kernel
theorem dX11_bansOf_57 : decode cX11_bansOf 57 = .ok (.iload_n 2, 1) := by decide +kernel
theorem dX11_bansOf_58 : decode cX11_bansOf 58 = .ok (.ireturn, 1) := by decide +kernel
theorem dX11_isFlat_0 : decode cX11_isFlat 0 = .ok (.aload_n 0, 1) := by decide +kernel
theorem dX11_isFlat_1 : decode cX11_isFlat 1 = .ok (.getfield 32, 3) := by decide +kernel
theorem dX11_isFlat_4 : decode cX11_isFlat 4 = .ok (.sipush 199, 3) := by decide +kernel
theorem dX11_isFlat_7 : decode cX11_isFlat 7 = .ok (.iload_n 1, 1) := by decide +kernel
theorem dX11_isFlat_8 : decode cX11_isFlat 8 = .ok (.imul, 1) := by decide +kernel
theorem dX11_isFlat_9 : decode cX11_isFlat 9 = .ok (.iload_n 2, 1) := by decide +kernel
theorem dX11_isFlat_10 : decode cX11_isFlat 10 = .ok (.iadd, 1) := by decide +kernel
theorem dX11_isFlat_11 : decode cX11_isFlat 11 = .ok (.iaload, 1) := by decide +kernel
theorem dX11_isFlat_12 : decode cX11_isFlat 12 = .ok (.iconst (-1), 1) := by decide +kernel
theorem dX11_isFlat_13 : decode cX11_isFlat 13 = .ok (.if_icmp .eq 22, 3) := by decide +kernel
theorem dX11_isFlat_16 : decode cX11_isFlat 16 = .ok (.aload_n 0, 1) := by decide +kernel
theorem dX11_isFlat_17 : decode cX11_isFlat 17 = .ok (.getfield 38, 3) := by decide +kernel
theorem dX11_isFlat_20 : decode cX11_isFlat 20 = .ok (.sipush 199, 3) := by decide +kernel
theorem dX11_isFlat_23 : decode cX11_isFlat 23 = .ok (.iload_n 1, 1) := by decide +kernel
theorem dX11_isFlat_24 : decode cX11_isFlat 24 = .ok (.imul, 1) := by decide +kernel
theorem dX11_isFlat_25 : decode cX11_isFlat 25 = .ok (.iload_n 2, 1) := by decide +kernel
theorem dX11_isFlat_26 : decode cX11_isFlat 26 = .ok (.iadd, 1) := by decide +kernel
theorem dX11_isFlat_27 : decode cX11_isFlat 27 = .ok (.iaload, 1) := by decide +kernel
theorem dX11_isFlat_28 : decode cX11_isFlat 28 = .ok (.ifCond .ne 7, 3) := by decide +kernel
theorem dX11_isFlat_31 : decode cX11_isFlat 31 = .ok (.iconst 1, 1) := by decide +kernel
theorem dX11_isFlat_32 : decode cX11_isFlat 32 = .ok (.goto 4, 3) := by decide +kernel
theorem dX11_isFlat_35 : decode cX11_isFlat 35 = .ok (.iconst 0, 1) := by decide +kernel
theorem dX11_isFlat_36 : decode cX11_isFlat 36 = .ok (.ireturn, 1) := by decide +kernel
theorem dX11_flatsOf_0 : decode cX11_flatsOf 0 = .ok (.iconst 0, 1) := by decide +kernel
theorem dX11_flatsOf_1 : decode cX11_flatsOf 1 = .ok (.istore_n 2, 1) := by decide +kernel
theorem dX11_flatsOf_2 : decode cX11_flatsOf 2 = .ok (.aload_n 0, 1) := by decide +kernel
theorem dX11_flatsOf_3 : decode cX11_flatsOf 3 = .ok (.iload_n 1, 1) := by decide +kernel
theorem dX11_flatsOf_4 : decode cX11_flatsOf 4 = .ok (.invokevirtual 217, 3) := by decide +kernel
theorem dX11_flatsOf_7 : decode cX11_flatsOf 7 = .ok (.istore_n 3, 1) := by decide +kernel
theorem dX11_flatsOf_8 : decode cX11_flatsOf 8 = .ok (.iconst 0, 1) := by decide +kernel
theorem dX11_flatsOf_9 : decode cX11_flatsOf 9 = .ok (.istore 4, 2) := by decide +kernel
theorem dX11_flatsOf_11 : decode cX11_flatsOf 11 = .ok (.iload_n 3, 1) := by decide +kernel
theorem dX11_flatsOf_12 : decode cX11_flatsOf 12 = .ok (.ifCond .eq 38, 3) := by decide +kernel
theorem dX11_flatsOf_15 : decode cX11_flatsOf 15 = .ok (.iload 4, 2) := by decide +kernel
theorem dX11_flatsOf_17 : decode cX11_flatsOf 17 = .ok (.aload_n 0, 1) := by decide +kernel
theorem dX11_flatsOf_18 : decode cX11_flatsOf 18 = .ok (.getfield 7, 3) := by decide +kernel
theorem dX11_flatsOf_21 : decode cX11_flatsOf 21 = .ok (.iconst 0, 1) := by decide +kernel
theorem dX11_flatsOf_22 : decode cX11_flatsOf 22 = .ok (.iaload, 1) := by decide +kernel
theorem dX11_flatsOf_23 : decode cX11_flatsOf 23 = .ok (.if_icmp .ge 27, 3) := by decide +kernel
theorem dX11_flatsOf_26 : decode cX11_flatsOf 26 = .ok (.iload_n 2, 1) := by decide +kernel
theorem dX11_flatsOf_27 : decode cX11_flatsOf 27 = .ok (.aload_n 0, 1) := by decide +kernel
theorem dX11_flatsOf_28 : decode cX11_flatsOf 28 = .ok (.iload_n 1, 1) := by decide +kernel
theorem dX11_flatsOf_29 : decode cX11_flatsOf 29 = .ok (.iload 4, 2) := by decide +kernel
theorem dX11_flatsOf_31 : decode cX11_flatsOf 31 = .ok (.invokevirtual 220, 3) := by decide +kernel
theorem dX11_flatsOf_34 : decode cX11_flatsOf 34 = .ok (.ifCond .eq 7, 3) := by decide +kernel
theorem dX11_flatsOf_37 : decode cX11_flatsOf 37 = .ok (.iconst 1, 1) := by decide +kernel
theorem dX11_flatsOf_38 : decode cX11_flatsOf 38 = .ok (.goto 4, 3) := by decide +kernel
theorem dX11_flatsOf_41 : decode cX11_flatsOf 41 = .ok (.iconst 0, 1) := by decide +kernel
theorem dX11_flatsOf_42 : decode cX11_flatsOf 42 = .ok (.iadd, 1) := by decide +kernel
theorem dX11_flatsOf_43 : decode cX11_flatsOf 43 = .ok (.istore_n 2, 1) := by decide +kernel
theorem dX11_flatsOf_44 : decode cX11_flatsOf 44 = .ok (.iinc 4 1, 3) := by decide +kernel
theorem dX11_flatsOf_47 : decode cX11_flatsOf 47 = .ok (.goto (-36), 3) := by decide +kernel
theorem dX11_flatsOf_50 : decode cX11_flatsOf 50 = .ok (.iload_n 2, 1) := by decide +kernel
theorem dX11_flatsOf_51 : decode cX11_flatsOf 51 = .ok (.ireturn, 1) := by decide +kernel
theorem dX11_firstFlat_0 : decode cX11_firstFlat 0 = .ok (.aload_n 0, 1) := by decide +kernel
theorem dX11_firstFlat_1 : decode cX11_firstFlat 1 = .ok (.iload_n 1, 1) := by decide +kernel
theorem dX11_firstFlat_2 : decode cX11_firstFlat 2 = .ok (.invokevirtual 217, 3) := by decide +kernel
theorem dX11_firstFlat_5 : decode cX11_firstFlat 5 = .ok (.ifCond .ne 5, 3) := by decide +kernel
theorem dX11_firstFlat_8 : decode cX11_firstFlat 8 = .ok (.iconst 0, 1) := by decide +kernel
theorem dX11_firstFlat_9 : decode cX11_firstFlat 9 = .ok (.ireturn, 1) := by decide +kernel
theorem dX11_firstFlat_10 : decode cX11_firstFlat 10 = .ok (.iconst 0, 1) := by decide +kernel
theorem dX11_firstFlat_11 : decode cX11_firstFlat 11 = .ok (.istore_n 2, 1) := by decide +kernel
theorem dX11_firstFlat_12 : decode cX11_firstFlat 12 = .ok (.iload_n 2, 1) := by decide +kernel
theorem dX11_firstFlat_13 : decode cX11_firstFlat 13 = .ok (.aload_n 0, 1) := by decide +kernel
theorem dX11_firstFlat_14 : decode cX11_firstFlat 14 = .ok (.getfield 7, 3) := by decide +kernel
theorem dX11_firstFlat_17 : decode cX11_firstFlat 17 = .ok (.iconst 0, 1) := by decide +kernel
theorem dX11_firstFlat_18 : decode cX11_firstFlat 18 = .ok (.iaload, 1) := by decide +kernel
theorem dX11_firstFlat_19 : decode cX11_firstFlat 19 = .ok (.if_icmp .ge 18, 3) := by decide +kernel
theorem dX11_firstFlat_22 : decode cX11_firstFlat 22 = .ok (.aload_n 0, 1) := by decide +kernel
theorem dX11_firstFlat_23 : decode cX11_firstFlat 23 = .ok (.iload_n 1, 1) := by decide +kernel
theorem dX11_firstFlat_24 : decode cX11_firstFlat 24 = .ok (.iload_n 2, 1) := by decide +kernel
theorem dX11_firstFlat_25 : decode cX11_firstFlat 25 = .ok (.invokevirtual 220, 3) := by decide +kernel
theorem dX11_firstFlat_28 : decode cX11_firstFlat 28 = .ok (.ifCond .ne 9, 3) := by decide +kernel
theorem dX11_firstFlat_31 : decode cX11_firstFlat 31 = .ok (.iinc 2 1, 3) := by decide +kernel
theorem dX11_firstFlat_34 : decode cX11_firstFlat 34 = .ok (.goto (-22), 3) := by decide +kernel
theorem dX11_firstFlat_37 : decode cX11_firstFlat 37 = .ok (.iload_n 2, 1) := by decide +kernel
theorem dX11_firstFlat_38 : decode cX11_firstFlat 38 = .ok (.aload_n 0, 1) := by decide +kernel
theorem dX11_firstFlat_39 : decode cX11_firstFlat 39 = .ok (.getfield 7, 3) := by decide +kernel
theorem dX11_firstFlat_42 : decode cX11_firstFlat 42 = .ok (.iconst 0, 1) := by decide +kernel
theorem dX11_firstFlat_43 : decode cX11_firstFlat 43 = .ok (.iaload, 1) := by decide +kernel
theorem dX11_firstFlat_44 : decode cX11_firstFlat 44 = .ok (.if_icmp .ge 7, 3) := by decide +kernel
theorem dX11_firstFlat_47 : decode cX11_firstFlat 47 = .ok (.iload_n 2, 1) := by decide +kernel
theorem dX11_firstFlat_48 : decode cX11_firstFlat 48 = .ok (.goto 4, 3) := by decide +kernel
theorem dX11_firstFlat_51 : decode cX11_firstFlat 51 = .ok (.iconst (-1), 1) := by decide +kernel
theorem dX11_firstFlat_52 : decode cX11_firstFlat 52 = .ok (.ireturn, 1) := by decide +kernel
theorem dX11_rootsOf_0 : decode cX11_rootsOf 0 = .ok (.iconst 0, 1) := by decide +kernel
theorem dX11_rootsOf_1 : decode cX11_rootsOf 1 = .ok (.istore_n 2, 1) := by decide +kernel
theorem dX11_rootsOf_2 : decode cX11_rootsOf 2 = .ok (.aload_n 0, 1) := by decide +kernel
theorem dX11_rootsOf_3 : decode cX11_rootsOf 3 = .ok (.iload_n 1, 1) := by decide +kernel
theorem dX11_rootsOf_4 : decode cX11_rootsOf 4 = .ok (.invokevirtual 217, 3) := by decide +kernel
theorem dX11_rootsOf_7 : decode cX11_rootsOf 7 = .ok (.istore_n 3, 1) := by decide +kernel
theorem dX11_rootsOf_8 : decode cX11_rootsOf 8 = .ok (.iconst 0, 1) := by decide +kernel
theorem dX11_rootsOf_9 : decode cX11_rootsOf 9 = .ok (.istore 4, 2) := by decide +kernel
theorem dX11_rootsOf_11 : decode cX11_rootsOf 11 = .ok (.iload_n 3, 1) := by decide +kernel
theorem dX11_rootsOf_12 : decode cX11_rootsOf 12 = .ok (.ifCond .eq 44, 3) := by decide +kernel
theorem dX11_rootsOf_15 : decode cX11_rootsOf 15 = .ok (.iload 4, 2) := by decide +kernel
theorem dX11_rootsOf_17 : decode cX11_rootsOf 17 = .ok (.aload_n 0, 1) := by decide +kernel
theorem dX11_rootsOf_18 : decode cX11_rootsOf 18 = .ok (.getfield 7, 3) := by decide +kernel
theorem dX11_rootsOf_21 : decode cX11_rootsOf 21 = .ok (.iconst 0, 1) := by decide +kernel
theorem dX11_rootsOf_22 : decode cX11_rootsOf 22 = .ok (.iaload, 1) := by decide +kernel
theorem dX11_rootsOf_23 : decode cX11_rootsOf 23 = .ok (.if_icmp .ge 33, 3) := by decide +kernel
theorem dX11_rootsOf_26 : decode cX11_rootsOf 26 = .ok (.iload_n 2, 1) := by decide +kernel
theorem dX11_rootsOf_27 : decode cX11_rootsOf 27 = .ok (.aload_n 0, 1) := by decide +kernel
theorem dX11_rootsOf_28 : decode cX11_rootsOf 28 = .ok (.getfield 32, 3) := by decide +kernel
theorem dX11_rootsOf_31 : decode cX11_rootsOf 31 = .ok (.sipush 199, 3) := by decide +kernel
theorem dX11_rootsOf_34 : decode cX11_rootsOf 34 = .ok (.iload_n 1, 1) := by decide +kernel
theorem dX11_rootsOf_35 : decode cX11_rootsOf 35 = .ok (.imul, 1) := by decide +kernel
theorem dX11_rootsOf_36 : decode cX11_rootsOf 36 = .ok (.iload 4, 2) := by decide +kernel
theorem dX11_rootsOf_38 : decode cX11_rootsOf 38 = .ok (.iadd, 1) := by decide +kernel
theorem dX11_rootsOf_39 : decode cX11_rootsOf 39 = .ok (.iaload, 1) := by decide +kernel
theorem dX11_rootsOf_40 : decode cX11_rootsOf 40 = .ok (.ifCond .ne 7, 3) := by decide +kernel
theorem dX11_rootsOf_43 : decode cX11_rootsOf 43 = .ok (.iconst 1, 1) := by decide +kernel
theorem dX11_rootsOf_44 : decode cX11_rootsOf 44 = .ok (.goto 4, 3) := by decide +kernel
theorem dX11_rootsOf_47 : decode cX11_rootsOf 47 = .ok (.iconst 0, 1) := by decide +kernel
theorem dX11_rootsOf_48 : decode cX11_rootsOf 48 = .ok (.iadd, 1) := by decide +kernel
theorem dX11_rootsOf_49 : decode cX11_rootsOf 49 = .ok (.istore_n 2, 1) := by decide +kernel
theorem dX11_rootsOf_50 : decode cX11_rootsOf 50 = .ok (.iinc 4 1, 3) := by decide +kernel
theorem dX11_rootsOf_53 : decode cX11_rootsOf 53 = .ok (.goto (-42), 3) := by decide +kernel
theorem dX11_rootsOf_56 : decode cX11_rootsOf 56 = .ok (.iload_n 2, 1) := by decide +kernel
theorem dX11_rootsOf_57 : decode cX11_rootsOf 57 = .ok (.ireturn, 1) := by decide +kernel
theorem dX11_isSame_0 : decode cX11_isSame 0 = .ok (.aload_n 0, 1) := by decide +kernel
theorem dX11_isSame_1 : decode cX11_isSame 1 = .ok (.iload_n 1, 1) := by decide +kernel
theorem dX11_isSame_2 : decode cX11_isSame 2 = .ok (.invokestatic 146, 3) := by decide +kernel
theorem dX11_isSame_5 : decode cX11_isSame 5 = .ok (.ifCond .eq 14, 3) := by decide +kernel
theorem dX11_isSame_8 : decode cX11_isSame 8 = .ok (.iload_n 2, 1) := by decide +kernel
theorem dX11_isSame_9 : decode cX11_isSame 9 = .ok (.invokestatic 146, 3) := by decide +kernel
theorem dX11_isSame_12 : decode cX11_isSame 12 = .ok (.ifCond .eq 7, 3) := by decide +kernel
theorem dX11_isSame_15 : decode cX11_isSame 15 = .ok (.iconst 1, 1) := by decide +kernel
theorem dX11_isSame_16 : decode cX11_isSame 16 = .ok (.goto 4, 3) := by decide +kernel
theorem dX11_isSame_19 : decode cX11_isSame 19 = .ok (.iconst 0, 1) := by decide +kernel
theorem dX11_isSame_20 : decode cX11_isSame 20 = .ok (.invokevirtual 66, 3) := by decide +kernel
theorem dX11_isSame_23 : decode cX11_isSame 23 = .ok (.ifCond .ne 5, 3) := by decide +kernel
theorem dX11_isSame_26 : decode cX11_isSame 26 = .ok (.iconst 0, 1) := by decide +kernel
theorem dX11_isSame_27 : decode cX11_isSame 27 = .ok (.ireturn, 1) := by decide +kernel
theorem dX11_isSame_28 : decode cX11_isSame 28 = .ok (.aload_n 0, 1) := by decide +kernel
theorem dX11_isSame_29 : decode cX11_isSame 29 = .ok (.iload_n 1, 1) := by decide +kernel
theorem dX11_isSame_30 : decode cX11_isSame 30 = .ok (.iload_n 2, 1) := by decide +kernel
theorem dX11_isSame_31 : decode cX11_isSame 31 = .ok (.if_icmp .le 7, 3) := by decide +kernel
theorem dX11_isSame_34 : decode cX11_isSame 34 = .ok (.iload_n 1, 1) := by decide +kernel
theorem dX11_isSame_35 : decode cX11_isSame 35 = .ok (.goto 4, 3) := by decide +kernel
theorem dX11_isSame_38 : decode cX11_isSame 38 = .ok (.iload_n 2, 1) := by decide +kernel
theorem dX11_isSame_39 : decode cX11_isSame 39 = .ok (.invokevirtual 207, 3) := by decide +kernel
theorem dX11_isSame_42 : decode cX11_isSame 42 = .ok (.iconst 1, 1) := by decide +kernel
theorem dX11_isSame_43 : decode cX11_isSame 43 = .ok (.istore_n 3, 1) := by decide +kernel
theorem dX11_isSame_44 : decode cX11_isSame 44 = .ok (.iconst 0, 1) := by decide +kernel
theorem dX11_isSame_45 : decode cX11_isSame 45 = .ok (.istore 4, 2) := by decide +kernel
theorem dX11_isSame_47 : decode cX11_isSame 47 = .ok (.iload 4, 2) := by decide +kernel
theorem dX11_isSame_49 : decode cX11_isSame 49 = .ok (.aload_n 0, 1) := by decide +kernel
theorem dX11_isSame_50 : decode cX11_isSame 50 = .ok (.getfield 7, 3) := by decide +kernel
theorem dX11_isSame_53 : decode cX11_isSame 53 = .ok (.iconst 0, 1) := by decide +kernel
theorem dX11_isSame_54 : decode cX11_isSame 54 = .ok (.iaload, 1) := by decide +kernel
theorem dX11_isSame_55 : decode cX11_isSame 55 = .ok (.if_icmp .ge 48, 3) := by decide +kernel
theorem dX11_isSame_58 : decode cX11_isSame 58 = .ok (.iload_n 3, 1) := by decide +kernel
theorem dX11_isSame_59 : decode cX11_isSame 59 = .ok (.ifCond .eq 36, 3) := by decide +kernel
theorem dX11_isSame_62 : decode cX11_isSame 62 = .ok (.aload_n 0, 1) := by decide +kernel
theorem dX11_isSame_63 : decode cX11_isSame 63 = .ok (.getfield 32, 3) := by decide +kernel
theorem dX11_isSame_66 : decode cX11_isSame 66 = .ok (.sipush 199, 3) := by decide +kernel
theorem dX11_isSame_69 : decode cX11_isSame 69 = .ok (.iload_n 1, 1) := by decide +kernel
theorem dX11_isSame_70 : decode cX11_isSame 70 = .ok (.imul, 1) := by decide +kernel
theorem dX11_isSame_71 : decode cX11_isSame 71 = .ok (.iload 4, 2) := by decide +kernel
theorem dX11_isSame_73 : decode cX11_isSame 73 = .ok (.iadd, 1) := by decide +kernel
theorem dX11_isSame_74 : decode cX11_isSame 74 = .ok (.iaload, 1) := by decide +kernel
theorem dX11_isSame_75 : decode cX11_isSame 75 = .ok (.aload_n 0, 1) := by decide +kernel
theorem dX11_isSame_76 : decode cX11_isSame 76 = .ok (.getfield 32, 3) := by decide +kernel
theorem dX11_isSame_79 : decode cX11_isSame 79 = .ok (.sipush 199, 3) := by decide +kernel
theorem dX11_isSame_82 : decode cX11_isSame 82 = .ok (.iload_n 2, 1) := by decide +kernel
theorem dX11_isSame_83 : decode cX11_isSame 83 = .ok (.imul, 1) := by decide +kernel
theorem dX11_isSame_84 : decode cX11_isSame 84 = .ok (.iload 4, 2) := by decide +kernel
theorem dX11_isSame_86 : decode cX11_isSame 86 = .ok (.iadd, 1) := by decide +kernel
theorem dX11_isSame_87 : decode cX11_isSame 87 = .ok (.iaload, 1) := by decide +kernel
theorem dX11_isSame_88 : decode cX11_isSame 88 = .ok (.if_icmp .ne 7, 3) := by decide +kernel
theorem dX11_isSame_91 : decode cX11_isSame 91 = .ok (.iconst 1, 1) := by decide +kernel
theorem dX11_isSame_92 : decode cX11_isSame 92 = .ok (.goto 4, 3) := by decide +kernel
theorem dX11_isSame_95 : decode cX11_isSame 95 = .ok (.iconst 0, 1) := by decide +kernel
theorem dX11_isSame_96 : decode cX11_isSame 96 = .ok (.istore_n 3, 1) := by decide +kernel
theorem dX11_isSame_97 : decode cX11_isSame 97 = .ok (.iinc 4 1, 3) := by decide +kernel
theorem dX11_isSame_100 : decode cX11_isSame 100 = .ok (.goto (-53), 3) := by decide +kernel
theorem dX11_isSame_103 : decode cX11_isSame 103 = .ok (.iload_n 3, 1) := by decide +kernel
theorem dX11_isSame_104 : decode cX11_isSame 104 = .ok (.ireturn, 1) := by decide +kernel
theorem dX11_next_0 : decode cX11_next 0 = .ok (.aload_n 0, 1) := by decide +kernel
theorem dX11_next_1 : decode cX11_next 1 = .ok (.getfield 32, 3) := by decide +kernel
theorem dX11_next_4 : decode cX11_next 4 = .ok (.sipush 199, 3) := by decide +kernel
theorem dX11_next_7 : decode cX11_next 7 = .ok (.iload_n 1, 1) := by decide +kernel
theorem dX11_next_8 : decode cX11_next 8 = .ok (.imul, 1) := by decide +kernel
theorem dX11_next_9 : decode cX11_next 9 = .ok (.iload_n 2, 1) := by decide +kernel
theorem dX11_next_10 : decode cX11_next 10 = .ok (.iadd, 1) := by decide +kernel
theorem dX11_next_11 : decode cX11_next 11 = .ok (.iaload, 1) := by decide +kernel
theorem dX11_next_12 : decode cX11_next 12 = .ok (.istore_n 3, 1) := by decide +kernel
theorem dX11_next_13 : decode cX11_next 13 = .ok (.aload_n 0, 1) := by decide +kernel
theorem dX11_next_14 : decode cX11_next 14 = .ok (.getfield 38, 3) := by decide +kernel
theorem dX11_next_17 : decode cX11_next 17 = .ok (.sipush 199, 3) := by decide +kernel
theorem dX11_next_20 : decode cX11_next 20 = .ok (.iload_n 1, 1) := by decide +kernel
theorem dX11_next_21 : decode cX11_next 21 = .ok (.imul, 1) := by decide +kernel
theorem dX11_next_22 : decode cX11_next 22 = .ok (.iload_n 2, 1) := by decide +kernel
theorem dX11_next_23 : decode cX11_next 23 = .ok (.iadd, 1) := by decide +kernel
theorem dX11_next_24 : decode cX11_next 24 = .ok (.iaload, 1) := by decide +kernel
theorem dX11_next_25 : decode cX11_next 25 = .ok (.istore 4, 2) := by decide +kernel
theorem dX11_next_27 : decode cX11_next 27 = .ok (.iload_n 3, 1) := by decide +kernel
theorem dX11_next_28 : decode cX11_next 28 = .ok (.iconst (-1), 1) := by decide +kernel
theorem dX11_next_29 : decode cX11_next 29 = .ok (.if_icmp .eq 8, 3) := by decide +kernel
theorem dX11_next_32 : decode cX11_next 32 = .ok (.iload 4, 2) := by decide +kernel
theorem dX11_next_34 : decode cX11_next 34 = .ok (.ifCond .ne 7, 3) := by decide +kernel
theorem dX11_next_37 : decode cX11_next 37 = .ok (.iconst (-1), 1) := by decide +kernel
theorem dX11_next_38 : decode cX11_next 38 = .ok (.goto 17, 3) := by decide +kernel
theorem dX11_next_41 : decode cX11_next 41 = .ok (.aload_n 0, 1) := by decide +kernel
theorem dX11_next_42 : decode cX11_next 42 = .ok (.iload_n 2, 1) := by decide +kernel
theorem dX11_next_43 : decode cX11_next 43 = .ok (.iload_n 3, 1) := by decide +kernel
theorem dX11_next_44 : decode cX11_next 44 = .ok (.aload_n 0, 1) := by decide +kernel
theorem dX11_next_45 : decode cX11_next 45 = .ok (.iload 4, 2) := by decide +kernel
theorem dX11_next_47 : decode cX11_next 47 = .ok (.invokevirtual 188, 3) := by decide +kernel
theorem dX11_next_50 : decode cX11_next 50 = .ok (.imul, 1) := by decide +kernel
theorem dX11_next_51 : decode cX11_next 51 = .ok (.isub, 1) := by decide +kernel
theorem dX11_next_52 : decode cX11_next 52 = .ok (.invokevirtual 182, 3) := by decide +kernel
theorem dX11_next_55 : decode cX11_next 55 = .ok (.ireturn, 1) := by decide +kernel
theorem dX11_step_0 : decode cX11_step 0 = .ok (.aload_n 0, 1) := by decide +kernel
theorem dX11_step_1 : decode cX11_step 1 = .ok (.iload_n 1, 1) := by decide +kernel
theorem dX11_step_2 : decode cX11_step 2 = .ok (.iload_n 2, 1) := by decide +kernel
theorem dX11_step_3 : decode cX11_step 3 = .ok (.invokevirtual 210, 3) := by decide +kernel
theorem dX11_step_6 : decode cX11_step 6 = .ok (.ifCond .eq 12, 3) := by decide +kernel
theorem dX11_step_9 : decode cX11_step 9 = .ok (.aload_n 0, 1) := by decide +kernel
theorem dX11_step_10 : decode cX11_step 10 = .ok (.iload_n 1, 1) := by decide +kernel
theorem dX11_step_11 : decode cX11_step 11 = .ok (.iload_n 2, 1) := by decide +kernel
theorem dX11_step_12 : decode cX11_step 12 = .ok (.invokevirtual 223, 3) := by decide +kernel
theorem dX11_step_15 : decode cX11_step 15 = .ok (.goto 4, 3) := by decide +kernel
theorem dX11_step_18 : decode cX11_step 18 = .ok (.iconst 0, 1) := by decide +kernel
theorem dX11_step_19 : decode cX11_step 19 = .ok (.ireturn, 1) := by decide +kernel
theorem dX11_steps_0 : decode cX11_steps 0 = .ok (.iload_n 2, 1) := by decide +kernel
theorem dX11_steps_1 : decode cX11_steps 1 = .ok (.istore_n 3, 1) := by decide +kernel
theorem dX11_steps_2 : decode cX11_steps 2 = .ok (.iconst 0, 1) := by decide +kernel
theorem dX11_steps_3 : decode cX11_steps 3 = .ok (.istore 4, 2) := by decide +kernel
theorem dX11_steps_5 : decode cX11_steps 5 = .ok (.iload 4, 2) := by decide +kernel
theorem dX11_steps_7 : decode cX11_steps 7 = .ok (.sipush 199, 3) := by decide +kernel
theorem dX11_steps_10 : decode cX11_steps 10 = .ok (.if_icmp .gt 36, 3) := by decide +kernel
theorem dX11_steps_13 : decode cX11_steps 13 = .ok (.iload_n 3, 1) := by decide +kernel
theorem dX11_steps_14 : decode cX11_steps 14 = .ok (.iconst (-1), 1) := by decide +kernel
theorem dX11_steps_15 : decode cX11_steps 15 = .ok (.if_icmp .eq 31, 3) := by decide +kernel
theorem dX11_steps_18 : decode cX11_steps 18 = .ok (.aload_n 0, 1) := by decide +kernel
theorem dX11_steps_19 : decode cX11_steps 19 = .ok (.getfield 32, 3) := by decide +kernel
theorem dX11_steps_22 : decode cX11_steps 22 = .ok (.sipush 199, 3) := by decide +kernel
theorem dX11_steps_25 : decode cX11_steps 25 = .ok (.iload_n 1, 1) := by decide +kernel
theorem dX11_steps_26 : decode cX11_steps 26 = .ok (.imul, 1) := by decide +kernel
theorem dX11_steps_27 : decode cX11_steps 27 = .ok (.iload_n 3, 1) := by decide +kernel
theorem dX11_steps_28 : decode cX11_steps 28 = .ok (.iadd, 1) := by decide +kernel
theorem dX11_steps_29 : decode cX11_steps 29 = .ok (.iaload, 1) := by decide +kernel
theorem dX11_steps_30 : decode cX11_steps 30 = .ok (.ifCond .eq 16, 3) := by decide +kernel
theorem dX11_steps_33 : decode cX11_steps 33 = .ok (.aload_n 0, 1) := by decide +kernel
theorem dX11_steps_34 : decode cX11_steps 34 = .ok (.iload_n 1, 1) := by decide +kernel
theorem dX11_steps_35 : decode cX11_steps 35 = .ok (.iload_n 3, 1) := by decide +kernel
theorem dX11_steps_36 : decode cX11_steps 36 = .ok (.invokevirtual 223, 3) := by decide +kernel
theorem dX11_steps_39 : decode cX11_steps 39 = .ok (.istore_n 3, 1) := by decide +kernel
theorem dX11_steps_40 : decode cX11_steps 40 = .ok (.iinc 4 1, 3) := by decide +kernel
theorem dX11_steps_43 : decode cX11_steps 43 = .ok (.goto (-38), 3) := by decide +kernel
theorem dX11_steps_46 : decode cX11_steps 46 = .ok (.iload_n 3, 1) := by decide +kernel
theorem dX11_steps_47 : decode cX11_steps 47 = .ok (.iconst (-1), 1) := by decide +kernel
theorem dX11_steps_48 : decode cX11_steps 48 = .ok (.if_icmp .eq 16, 3) := by decide +kernel
theorem dX11_steps_51 : decode cX11_steps 51 = .ok (.iload 4, 2) := by decide +kernel
theorem dX11_steps_53 : decode cX11_steps 53 = .ok (.sipush 199, 3) := by decide +kernel
theorem dX11_steps_56 : decode cX11_steps 56 = .ok (.if_icmp .gt 8, 3) := by decide +kernel
theorem dX11_steps_59 : decode cX11_steps 59 = .ok (.iload 4, 2) := by decide +kernel
theorem dX11_steps_61 : decode cX11_steps 61 = .ok (.goto 4, 3) := by decide +kernel
theorem dX11_steps_64 : decode cX11_steps 64 = .ok (.iconst (-1), 1) := by decide +kernel
theorem dX11_steps_65 : decode cX11_steps 65 = .ok (.ireturn, 1) := by decide +kernel
theorem dX11_stepsToRoot_0 : decode cX11_stepsToRoot 0 = .ok (.aload_n 0, 1) := by decide +kernel
theorem dX11_stepsToRoot_1 : decode cX11_stepsToRoot 1 = .ok (.iload_n 1, 1) := by decide +kernel
theorem dX11_stepsToRoot_2 : decode cX11_stepsToRoot 2 = .ok (.iload_n 2, 1) := by decide +kernel
theorem dX11_stepsToRoot_3 : decode cX11_stepsToRoot 3 = .ok (.invokevirtual 210, 3) := by decide +kernel
theorem dX11_stepsToRoot_6 : decode cX11_stepsToRoot 6 = .ok (.ifCond .eq 12, 3) := by decide +kernel
theorem dX11_stepsToRoot_9 : decode cX11_stepsToRoot 9 = .ok (.aload_n 0, 1) := by decide +kernel
theorem dX11_stepsToRoot_10 : decode cX11_stepsToRoot 10 = .ok (.iload_n 1, 1) := by decide +kernel
theorem dX11_stepsToRoot_11 : decode cX11_stepsToRoot 11 = .ok (.iload_n 2, 1) := by decide +kernel
theorem dX11_stepsToRoot_12 : decode cX11_stepsToRoot 12 = .ok (.invokevirtual 226, 3) := by decide +kernel
theorem dX11_stepsToRoot_15 : decode cX11_stepsToRoot 15 = .ok (.goto 4, 3) := by decide +kernel
theorem dX11_stepsToRoot_18 : decode cX11_stepsToRoot 18 = .ok (.iconst 0, 1) := by decide +kernel
theorem dX11_stepsToRoot_19 : decode cX11_stepsToRoot 19 = .ok (.ireturn, 1) := by decide +kernel
