theorem dX11_init_0 : decode cX11_init 0 = .ok (.aload_n 0, 1) := by decide +kernel
theorem dX11_init_1 : decode cX11_init 1 = .ok (.invokespecial 1, 3) := by decide +kernel
theorem dX11_init_4 : decode cX11_init 4 = .ok (.aload_n 0, 1) := by decide +kernel
theorem dX11_init_5 : decode cX11_init 5 = .ok (.sipush 325, 3) := by decide +kernel
theorem dX11_init_8 : decode cX11_init 8 = .ok (.newarray .int, 2) := by decide +kernel
theorem dX11_init_10 : decode cX11_init 10 = .ok (.putfield 7, 3) := by decide +kernel
theorem dX11_init_13 : decode cX11_init 13 = .ok (.aload_n 0, 1) := by decide +kernel
theorem dX11_init_14 : decode cX11_init 14 = .ok (.sipush 1300, 3) := by decide +kernel
theorem dX11_init_17 : decode cX11_init 17 = .ok (.newarray .int, 2) := by decide +kernel
theorem dX11_init_19 : decode cX11_init 19 = .ok (.putfield 13, 3) := by decide +kernel
theorem dX11_init_22 : decode cX11_init 22 = .ok (.aload_n 0, 1) := by decide +kernel
theorem dX11_init_23 : decode cX11_init 23 = .ok (.sipush 325, 3) := by decide +kernel
theorem dX11_init_26 : decode cX11_init 26 = .ok (.newarray .int, 2) := by decide +kernel
theorem dX11_init_28 : decode cX11_init 28 = .ok (.putfield 16, 3) := by decide +kernel
theorem dX11_init_31 : decode cX11_init 31 = .ok (.aload_n 0, 1) := by decide +kernel
theorem dX11_init_32 : decode cX11_init 32 = .ok (.bipush 40, 2) := by decide +kernel
theorem dX11_init_34 : decode cX11_init 34 = .ok (.newarray .char, 2) := by decide +kernel
theorem dX11_init_36 : decode cX11_init 36 = .ok (.putfield 19, 3) := by decide +kernel
theorem dX11_init_39 : decode cX11_init 39 = .ok (.aload_n 0, 1) := by decide +kernel
theorem dX11_init_40 : decode cX11_init 40 = .ok (.bipush 41, 2) := by decide +kernel
theorem dX11_init_42 : decode cX11_init 42 = .ok (.newarray .int, 2) := by decide +kernel
theorem dX11_init_44 : decode cX11_init 44 = .ok (.putfield 23, 3) := by decide +kernel
theorem dX11_init_47 : decode cX11_init 47 = .ok (.aload_n 0, 1) := by decide +kernel
theorem dX11_init_48 : decode cX11_init 48 = .ok (.bipush 41, 2) := by decide +kernel
theorem dX11_init_50 : decode cX11_init 50 = .ok (.newarray .int, 2) := by decide +kernel
theorem dX11_init_52 : decode cX11_init 52 = .ok (.putfield 26, 3) := by decide +kernel
theorem dX11_init_55 : decode cX11_init 55 = .ok (.aload_n 0, 1) := by decide +kernel
theorem dX11_init_56 : decode cX11_init 56 = .ok (.bipush 90, 2) := by decide +kernel
theorem dX11_init_58 : decode cX11_init 58 = .ok (.newarray .int, 2) := by decide +kernel
theorem dX11_init_60 : decode cX11_init 60 = .ok (.putfield 29, 3) := by decide +kernel
theorem dX11_init_63 : decode cX11_init 63 = .ok (.aload_n 0, 1) := by decide +kernel
theorem dX11_init_64 : decode cX11_init 64 = .ok (.sipush 796, 3) := by decide +kernel
theorem dX11_init_67 : decode cX11_init 67 = .ok (.newarray .int, 2) := by decide +kernel
theorem dX11_init_69 : decode cX11_init 69 = .ok (.putfield 32, 3) := by decide +kernel
theorem dX11_init_72 : decode cX11_init 72 = .ok (.aload_n 0, 1) := by decide +kernel
theorem dX11_init_73 : decode cX11_init 73 = .ok (.sipush 796, 3) := by decide +kernel
theorem dX11_init_76 : decode cX11_init 76 = .ok (.newarray .int, 2) := by decide +kernel
theorem dX11_init_78 : decode cX11_init 78 = .ok (.putfield 35, 3) := by decide +kernel
theorem dX11_init_81 : decode cX11_init 81 = .ok (.aload_n 0, 1) := by decide +kernel
theorem dX11_init_82 : decode cX11_init 82 = .ok (.sipush 796, 3) := by decide +kernel
theorem dX11_init_85 : decode cX11_init 85 = .ok (.newarray .int, 2) := by decide +kernel
theorem dX11_init_87 : decode cX11_init 87 = .ok (.putfield 38, 3) := by decide +kernel
theorem dX11_init_90 : decode cX11_init 90 = .ok (.aload_n 0, 1) := by decide +kernel
theorem dX11_init_91 : decode cX11_init 91 = .ok (.bipush 41, 2) := by decide +kernel
theorem dX11_init_93 : decode cX11_init 93 = .ok (.newarray .int, 2) := by decide +kernel
theorem dX11_init_95 : decode cX11_init 95 = .ok (.putfield 41, 3) := by decide +kernel
theorem dX11_init_98 : decode cX11_init 98 = .ok (.aload_n 0, 1) := by decide +kernel
theorem dX11_init_99 : decode cX11_init 99 = .ok (.bipush 41, 2) := by decide +kernel
theorem dX11_init_101 : decode cX11_init 101 = .ok (.newarray .int, 2) := by decide +kernel
theorem dX11_init_103 : decode cX11_init 103 = .ok (.putfield 44, 3) := by decide +kernel
theorem dX11_init_106 : decode cX11_init 106 = .ok (.aload_n 0, 1) := by decide +kernel
theorem dX11_init_107 : decode cX11_init 107 = .ok (.bipush 41, 2) := by decide +kernel
theorem dX11_init_109 : decode cX11_init 109 = .ok (.newarray .int, 2) := by decide +kernel
theorem dX11_init_111 : decode cX11_init 111 = .ok (.putfield 47, 3) := by decide +kernel
theorem dX11_init_114 : decode cX11_init 114 = .ok (.aload_n 0, 1) := by decide +kernel
theorem dX11_init_115 : decode cX11_init 115 = .ok (.bipush 41, 2) := by decide +kernel
theorem dX11_init_117 : decode cX11_init 117 = .ok (.newarray .int, 2) := by decide +kernel
theorem dX11_init_119 : decode cX11_init 119 = .ok (.putfield 50, 3) := by decide +kernel
theorem dX11_init_122 : decode cX11_init 122 = .ok (.aload_n 0, 1) := by decide +kernel
theorem dX11_init_123 : decode cX11_init 123 = .ok (.bipush 41, 2) := by decide +kernel
theorem dX11_init_125 : decode cX11_init 125 = .ok (.newarray .int, 2) := by decide +kernel
theorem dX11_init_127 : decode cX11_init 127 = .ok (.putfield 53, 3) := by decide +kernel
theorem dX11_init_130 : decode cX11_init 130 = .ok (.aload_n 0, 1) := by decide +kernel
theorem dX11_init_131 : decode cX11_init 131 = .ok (.bipush 41, 2) := by decide +kernel
theorem dX11_init_133 : decode cX11_init 133 = .ok (.newarray .int, 2) := by decide +kernel
theorem dX11_init_135 : decode cX11_init 135 = .ok (.putfield 56, 3) := by decide +kernel
theorem dX11_init_138 : decode cX11_init 138 = .ok (.aload_n 0, 1) := by decide +kernel
theorem dX11_init_139 : decode cX11_init 139 = .ok (.getfield 7, 3) := by decide +kernel
theorem dX11_init_142 : decode cX11_init 142 = .ok (.iconst 0, 1) := by decide +kernel
theorem dX11_init_143 : decode cX11_init 143 = .ok (.bipush 97, 2) := by decide +kernel
theorem dX11_init_145 : decode cX11_init 145 = .ok (.iastore, 1) := by decide +kernel
theorem dX11_init_146 : decode cX11_init 146 = .ok (.iconst 0, 1) := by decide +kernel
theorem dX11_init_147 : decode cX11_init 147 = .ok (.istore_n 1, 1) := by decide +kernel
theorem dX11_init_148 : decode cX11_init 148 = .ok (.iload_n 1, 1) := by decide +kernel
theorem dX11_init_149 : decode cX11_init 149 = .ok (.iconst 4, 1) := by decide +kernel
theorem dX11_init_150 : decode cX11_init 150 = .ok (.if_icmp .ge 33, 3) := by decide +kernel
theorem dX11_init_153 : decode cX11_init 153 = .ok (.aload_n 0, 1) := by decide +kernel
theorem dX11_init_154 : decode cX11_init 154 = .ok (.getfield 7, 3) := by decide +kernel
theorem dX11_init_157 : decode cX11_init 157 = .ok (.iconst 1, 1) := by decide +kernel
theorem dX11_init_158 : decode cX11_init 158 = .ok (.bipush 81, 2) := by decide +kernel
theorem dX11_init_160 : decode cX11_init 160 = .ok (.iload_n 1, 1) := by decide +kernel
theorem dX11_init_161 : decode cX11_init 161 = .ok (.imul, 1) := by decide +kernel
theorem dX11_init_162 : decode cX11_init 162 = .ok (.iadd, 1) := by decide +kernel
theorem dX11_init_163 : decode cX11_init 163 = .ok (.iconst 1, 1) := by decide +kernel
theorem dX11_init_164 : decode cX11_init 164 = .ok (.iastore, 1) := by decide +kernel
theorem dX11_init_165 : decode cX11_init 165 = .ok (.aload_n 0, 1) := by decide +kernel
theorem dX11_init_166 : decode cX11_init 166 = .ok (.getfield 7, 3) := by decide +kernel
theorem dX11_init_169 : decode cX11_init 169 = .ok (.iconst 2, 1) := by decide +kernel
theorem dX11_init_170 : decode cX11_init 170 = .ok (.bipush 81, 2) := by decide +kernel
theorem dX11_init_172 : decode cX11_init 172 = .ok (.iload_n 1, 1) := by decide +kernel
theorem dX11_init_173 : decode cX11_init 173 = .ok (.imul, 1) := by decide +kernel
theorem dX11_init_174 : decode cX11_init 174 = .ok (.iadd, 1) := by decide +kernel
theorem dX11_init_175 : decode cX11_init 175 = .ok (.iconst 1, 1) := by decide +kernel
theorem dX11_init_176 : decode cX11_init 176 = .ok (.iastore, 1) := by decide +kernel
theorem dX11_init_177 : decode cX11_init 177 = .ok (.iinc 1 1, 3) := by decide +kernel
theorem dX11_init_180 : decode cX11_init 180 = .ok (.goto (-32), 3) := by decide +kernel
theorem dX11_init_183 : decode cX11_init 183 = .ok (.return_, 1) := by decide +kernel
theorem dX11_thrown_0 : decode cX11_thrown 0 = .ok (.aload_n 0, 1) := by decide +kernel
theorem dX11_thrown_1 : decode cX11_thrown 1 = .ok (.getfield 59, 3) := by decide +kernel
theorem dX11_thrown_4 : decode cX11_thrown 4 = .ok (.ireturn, 1) := by decide +kernel
theorem dX11_in_0 : decode cX11_in 0 = .ok (.iload_n 0, 1) := by decide +kernel
theorem dX11_in_1 : decode cX11_in 1 = .ok (.iload_n 1, 1) := by decide +kernel
theorem dX11_in_2 : decode cX11_in 2 = .ok (.if_icmp .lt 12, 3) := by decide +kernel
theorem dX11_in_5 : decode cX11_in 5 = .ok (.iload_n 0, 1) := by decide +kernel
theorem dX11_in_6 : decode cX11_in 6 = .ok (.iload_n 2, 1) := by decide +kernel
theorem dX11_in_7 : decode cX11_in 7 = .ok (.if_icmp .gt 7, 3) := by decide +kernel
theorem dX11_in_10 : decode cX11_in 10 = .ok (.iconst 1, 1) := by decide +kernel
theorem dX11_in_11 : decode cX11_in 11 = .ok (.goto 4, 3) := by decide +kernel
theorem dX11_in_14 : decode cX11_in 14 = .ok (.iconst 0, 1) := by decide +kernel
theorem dX11_in_15 : decode cX11_in 15 = .ok (.ireturn, 1) := by decide +kernel
theorem dX11_asks_0 : decode cX11_asks 0 = .ok (.aload_n 0, 1) := by decide +kernel
theorem dX11_asks_1 : decode cX11_asks 1 = .ok (.iload_n 1, 1) := by decide +kernel
theorem dX11_asks_2 : decode cX11_asks 2 = .ok (.ifCond .eq 7, 3) := by decide +kernel
theorem dX11_asks_5 : decode cX11_asks 5 = .ok (.iconst 0, 1) := by decide +kernel
theorem dX11_asks_6 : decode cX11_asks 6 = .ok (.goto 4, 3) := by decide +kernel
theorem dX11_asks_9 : decode cX11_asks 9 = .ok (.iconst 1, 1) := by decide +kernel
theorem dX11_asks_10 : decode cX11_asks 10 = .ok (.putfield 59, 3) := by decide +kernel
theorem dX11_asks_13 : decode cX11_asks 13 = .ok (.iload_n 1, 1) := by decide +kernel
theorem dX11_asks_14 : decode cX11_asks 14 = .ok (.ireturn, 1) := by decide +kernel
theorem dX11_asksThen_0 : decode cX11_asksThen 0 = .ok (.aload_n 0, 1) := by decide +kernel
theorem dX11_asksThen_1 : decode cX11_asksThen 1 = .ok (.aload_n 0, 1) := by decide +kernel
theorem dX11_asksThen_2 : decode cX11_asksThen 2 = .ok (.getfield 59, 3) := by decide +kernel
theorem dX11_asksThen_5 : decode cX11_asksThen 5 = .ok (.ifCond .le 10, 3) := by decide +kernel
theorem dX11_asksThen_8 : decode cX11_asksThen 8 = .ok (.aload_n 0, 1) := by decide +kernel
theorem dX11_asksThen_9 : decode cX11_asksThen 9 = .ok (.getfield 59, 3) := by decide +kernel
theorem dX11_asksThen_12 : decode cX11_asksThen 12 = .ok (.goto 12, 3) := by decide +kernel
theorem dX11_asksThen_15 : decode cX11_asksThen 15 = .ok (.iload_n 1, 1) := by decide +kernel
theorem dX11_asksThen_16 : decode cX11_asksThen 16 = .ok (.ifCond .eq 7, 3) := by decide +kernel
theorem dX11_asksThen_19 : decode cX11_asksThen 19 = .ok (.iconst 0, 1) := by decide +kernel
theorem dX11_asksThen_20 : decode cX11_asksThen 20 = .ok (.goto 4, 3) := by decide +kernel
theorem dX11_asksThen_23 : decode cX11_asksThen 23 = .ok (.iload_n 2, 1) := by decide +kernel
theorem dX11_asksThen_24 : decode cX11_asksThen 24 = .ok (.putfield 59, 3) := by decide +kernel
theorem dX11_asksThen_27 : decode cX11_asksThen 27 = .ok (.aload_n 0, 1) := by decide +kernel
theorem dX11_asksThen_28 : decode cX11_asksThen 28 = .ok (.getfield 59, 3) := by decide +kernel
theorem dX11_asksThen_31 : decode cX11_asksThen 31 = .ok (.ifCond .ne 7, 3) := by decide +kernel
theorem dX11_asksThen_34 : decode cX11_asksThen 34 = .ok (.iconst 1, 1) := by decide +kernel
theorem dX11_asksThen_35 : decode cX11_asksThen 35 = .ok (.goto 4, 3) := by decide +kernel
theorem dX11_asksThen_38 : decode cX11_asksThen 38 = .ok (.iconst 0, 1) := by decide +kernel
theorem dX11_asksThen_39 : decode cX11_asksThen 39 = .ok (.ireturn, 1) := by decide +kernel
theorem dX11_says_0 : decode cX11_says 0 = .ok (.aload_n 0, 1) := by decide +kernel
theorem dX11_says_1 : decode cX11_says 1 = .ok (.iconst 0, 1) := by decide +kernel
theorem dX11_says_2 : decode cX11_says 2 = .ok (.putfield 59, 3) := by decide +kernel
theorem dX11_says_5 : decode cX11_says 5 = .ok (.iload_n 1, 1) := by decide +kernel
theorem dX11_says_6 : decode cX11_says 6 = .ok (.ireturn, 1) := by decide +kernel
theorem dX11_size_0 : decode cX11_size 0 = .ok (.aload_n 0, 1) := by decide +kernel
theorem dX11_size_1 : decode cX11_size 1 = .ok (.getfield 7, 3) := by decide +kernel
theorem dX11_size_4 : decode cX11_size 4 = .ok (.iconst 1, 1) := by decide +kernel
theorem dX11_size_5 : decode cX11_size 5 = .ok (.bipush 81, 2) := by decide +kernel
theorem dX11_size_7 : decode cX11_size 7 = .ok (.iload_n 1, 1) := by decide +kernel
theorem dX11_size_8 : decode cX11_size 8 = .ok (.imul, 1) := by decide +kernel
theorem dX11_size_9 : decode cX11_size 9 = .ok (.iadd, 1) := by decide +kernel
theorem dX11_size_10 : decode cX11_size 10 = .ok (.iaload, 1) := by decide +kernel
theorem dX11_size_11 : decode cX11_size 11 = .ok (.ireturn, 1) := by decide +kernel
theorem dX11_kind_0 : decode cX11_kind 0 = .ok (.aload_n 0, 1) := by decide +kernel
theorem dX11_kind_1 : decode cX11_kind 1 = .ok (.getfield 7, 3) := by decide +kernel
theorem dX11_kind_4 : decode cX11_kind 4 = .ok (.iconst 2, 1) := by decide +kernel
theorem dX11_kind_5 : decode cX11_kind 5 = .ok (.bipush 81, 2) := by decide +kernel
theorem dX11_kind_7 : decode cX11_kind 7 = .ok (.iload_n 1, 1) := by decide +kernel
theorem dX11_kind_8 : decode cX11_kind 8 = .ok (.imul, 1) := by decide +kernel
theorem dX11_kind_9 : decode cX11_kind 9 = .ok (.iadd, 1) := by decide +kernel
theorem dX11_kind_10 : decode cX11_kind 10 = .ok (.iconst 2, 1) := by decide +kernel
theorem dX11_kind_11 : decode cX11_kind 11 = .ok (.iload_n 2, 1) := by decide +kernel
theorem dX11_kind_12 : decode cX11_kind 12 = .ok (.imul, 1) := by decide +kernel
theorem dX11_kind_13 : decode cX11_kind 13 = .ok (.iadd, 1) := by decide +kernel
theorem dX11_kind_14 : decode cX11_kind 14 = .ok (.iaload, 1) := by decide +kernel
theorem dX11_kind_15 : decode cX11_kind 15 = .ok (.ireturn, 1) := by decide +kernel
theorem dX11_number_0 : decode cX11_number 0 = .ok (.aload_n 0, 1) := by decide +kernel
theorem dX11_number_1 : decode cX11_number 1 = .ok (.getfield 7, 3) := by decide +kernel
theorem dX11_number_4 : decode cX11_number 4 = .ok (.iconst 3, 1) := by decide +kernel
theorem dX11_number_5 : decode cX11_number 5 = .ok (.bipush 81, 2) := by decide +kernel
theorem dX11_number_7 : decode cX11_number 7 = .ok (.iload_n 1, 1) := by decide +kernel
theorem dX11_number_8 : decode cX11_number 8 = .ok (.imul, 1) := by decide +kernel
theorem dX11_number_9 : decode cX11_number 9 = .ok (.iadd, 1) := by decide +kernel
theorem dX11_number_10 : decode cX11_number 10 = .ok (.iconst 2, 1) := by decide +kernel
theorem dX11_number_11 : decode cX11_number 11 = .ok (.iload_n 2, 1) := by decide +kernel
theorem dX11_number_12 : decode cX11_number 12 = .ok (.imul, 1) := by decide +kernel
theorem dX11_number_13 : decode cX11_number 13 = .ok (.iadd, 1) := by decide +kernel
theorem dX11_number_14 : decode cX11_number 14 = .ok (.iaload, 1) := by decide +kernel
theorem dX11_number_15 : decode cX11_number 15 = .ok (.ireturn, 1) := by decide +kernel
theorem dX11_record_0 : decode cX11_record 0 = .ok (.aload_n 0, 1) := by decide +kernel
theorem dX11_record_1 : decode cX11_record 1 = .ok (.getfield 63, 3) := by decide +kernel
theorem dX11_record_4 : decode cX11_record 4 = .ok (.iconst 4, 1) := by decide +kernel
theorem dX11_record_5 : decode cX11_record 5 = .ok (.if_icmp .ne 44, 3) := by decide +kernel
theorem dX11_record_8 : decode cX11_record 8 = .ok (.iconst 0, 1) := by decide +kernel
theorem dX11_record_9 : decode cX11_record 9 = .ok (.istore_n 1, 1) := by decide +kernel
theorem dX11_record_10 : decode cX11_record 10 = .ok (.iload_n 1, 1) := by decide +kernel
theorem dX11_record_11 : decode cX11_record 11 = .ok (.sipush 975, 3) := by decide +kernel
theorem dX11_record_14 : decode cX11_record 14 = .ok (.if_icmp .ge 25, 3) := by decide +kernel
theorem dX11_record_17 : decode cX11_record 17 = .ok (.aload_n 0, 1) := by decide +kernel
theorem dX11_record_18 : decode cX11_record 18 = .ok (.getfield 13, 3) := by decide +kernel
theorem dX11_record_21 : decode cX11_record 21 = .ok (.iload_n 1, 1) := by decide +kernel
theorem dX11_record_22 : decode cX11_record 22 = .ok (.aload_n 0, 1) := by decide +kernel
theorem dX11_record_23 : decode cX11_record 23 = .ok (.getfield 13, 3) := by decide +kernel
theorem dX11_record_26 : decode cX11_record 26 = .ok (.iload_n 1, 1) := by decide +kernel
theorem dX11_record_27 : decode cX11_record 27 = .ok (.sipush 325, 3) := by decide +kernel
theorem dX11_record_30 : decode cX11_record 30 = .ok (.iadd, 1) := by decide +kernel
theorem dX11_record_31 : decode cX11_record 31 = .ok (.iaload, 1) := by decide +kernel
theorem dX11_record_32 : decode cX11_record 32 = .ok (.iastore, 1) := by decide +kernel
theorem dX11_record_33 : decode cX11_record 33 = .ok (.iinc 1 1, 3) := by decide +kernel
theorem dX11_record_36 : decode cX11_record 36 = .ok (.goto (-26), 3) := by decide +kernel
theorem dX11_record_39 : decode cX11_record 39 = .ok (.aload_n 0, 1) := by decide +kernel
theorem dX11_record_40 : decode cX11_record 40 = .ok (.dup, 1) := by decide +kernel
theorem dX11_record_41 : decode cX11_record 41 = .ok (.getfield 63, 3) := by decide +kernel
theorem dX11_record_44 : decode cX11_record 44 = .ok (.iconst 1, 1) := by decide +kernel
theorem dX11_record_45 : decode cX11_record 45 = .ok (.isub, 1) := by decide +kernel
theorem dX11_record_46 : decode cX11_record 46 = .ok (.putfield 63, 3) := by decide +kernel
theorem dX11_record_49 : decode cX11_record 49 = .ok (.iconst 0, 1) := by decide +kernel
theorem dX11_record_50 : decode cX11_record 50 = .ok (.istore_n 1, 1) := by decide +kernel
theorem dX11_record_51 : decode cX11_record 51 = .ok (.iload_n 1, 1) := by decide +kernel
theorem dX11_record_52 : decode cX11_record 52 = .ok (.sipush 325, 3) := by decide +kernel
theorem dX11_record_55 : decode cX11_record 55 = .ok (.if_icmp .ge 30, 3) := by decide +kernel
theorem dX11_record_58 : decode cX11_record 58 = .ok (.aload_n 0, 1) := by decide +kernel
theorem dX11_record_59 : decode cX11_record 59 = .ok (.getfield 13, 3) := by decide +kernel
theorem dX11_record_62 : decode cX11_record 62 = .ok (.aload_n 0, 1) := by decide +kernel
theorem dX11_record_63 : decode cX11_record 63 = .ok (.getfield 63, 3) := by decide +kernel
theorem dX11_record_66 : decode cX11_record 66 = .ok (.sipush 325, 3) := by decide +kernel
theorem dX11_record_69 : decode cX11_record 69 = .ok (.imul, 1) := by decide +kernel
theorem dX11_record_70 : decode cX11_record 70 = .ok (.iload_n 1, 1) := by decide +kernel
theorem dX11_record_71 : decode cX11_record 71 = .ok (.iadd, 1) := by decide +kernel
theorem dX11_record_72 : decode cX11_record 72 = .ok (.aload_n 0, 1) := by decide +kernel
theorem dX11_record_73 : decode cX11_record 73 = .ok (.getfield 7, 3) := by decide +kernel
theorem dX11_record_76 : decode cX11_record 76 = .ok (.iload_n 1, 1) := by decide +kernel
theorem dX11_record_77 : decode cX11_record 77 = .ok (.iaload, 1) := by decide +kernel
theorem dX11_record_78 : decode cX11_record 78 = .ok (.iastore, 1) := by decide +kernel
theorem dX11_record_79 : decode cX11_record 79 = .ok (.iinc 1 1, 3) := by decide +kernel
theorem dX11_record_82 : decode cX11_record 82 = .ok (.goto (-31), 3) := by decide +kernel
theorem dX11_record_85 : decode cX11_record 85 = .ok (.aload_n 0, 1) := by decide +kernel
theorem dX11_record_86 : decode cX11_record 86 = .ok (.dup, 1) := by decide +kernel
theorem dX11_record_87 : decode cX11_record 87 = .ok (.getfield 63, 3) := by decide +kernel
theorem dX11_record_90 : decode cX11_record 90 = .ok (.iconst 1, 1) := by decide +kernel
theorem dX11_record_91 : decode cX11_record 91 = .ok (.iadd, 1) := by decide +kernel
theorem dX11_record_92 : decode cX11_record 92 = .ok (.putfield 63, 3) := by decide +kernel
theorem dX11_record_95 : decode cX11_record 95 = .ok (.return_, 1) := by decide +kernel
set_option maxRecDepth 20000 in
theorem ggX11_undo_X11_asks : GoodIn wsX11_undo wsX11_asks := goodIn_r _ [8, 9, 10, 11, 12, 13, 14, 15, 16, 17, 18, 19, 20, 21, 22, 23, 24, 25, 26, 27, 28, 29, 30, 31, 32, 33, 34, 35] (by decide +kernel) (by decide +kernel)
set_option maxRecDepth 20000 in
theorem gX11_undo_X11_asks : GoodIn wsX11_undo (wsV RX11 66 RX11 yX11_asks wsX11_asks) := goodIn_app (goodIn_of _ (by decide +kernel)) ggX11_undo_X11_asks
theorem dX11_undo_0 : decode cX11_undo 0 = .ok (.aload_n 0, 1) := by decide +kernel
theorem dX11_undo_1 : decode cX11_undo 1 = .ok (.aload_n 0, 1) := by decide +kernel
theorem dX11_undo_2 : decode cX11_undo 2 = .ok (.getfield 63, 3) := by decide +kernel
theorem dX11_undo_5 : decode cX11_undo 5 = .ok (.ifCond .le 7, 3) := by decide +kernel
theorem dX11_undo_8 : decode cX11_undo 8 = .ok (.iconst 1, 1) := by decide +kernel
theorem dX11_undo_9 : decode cX11_undo 9 = .ok (.goto 4, 3) := by decide +kernel
theorem dX11_undo_12 : decode cX11_undo 12 = .ok (.iconst 0, 1) := by decide +kernel
theorem dX11_undo_13 : decode cX11_undo 13 = .ok (.invokevirtual 66, 3) := by decide +kernel
theorem dX11_undo_16 : decode cX11_undo 16 = .ok (.ifCond .ne 5, 3) := by decide +kernel
theorem dX11_undo_19 : decode cX11_undo 19 = .ok (.iconst 0, 1) := by decide +kernel
theorem dX11_undo_20 : decode cX11_undo 20 = .ok (.ireturn, 1) := by decide +kernel
theorem dX11_undo_21 : decode cX11_undo 21 = .ok (.aload_n 0, 1) := by decide +kernel
theorem dX11_undo_22 : decode cX11_undo 22 = .ok (.dup, 1) := by decide +kernel
theorem dX11_undo_23 : decode cX11_undo 23 = .ok (.getfield 63, 3) := by decide +kernel
theorem dX11_undo_26 : decode cX11_undo 26 = .ok (.iconst 1, 1) := by decide +kernel
theorem dX11_undo_27 : decode cX11_undo 27 = .ok (.isub, 1) := by decide +kernel
theorem dX11_undo_28 : decode cX11_undo 28 = .ok (.putfield 63, 3) := by decide +kernel
theorem dX11_undo_31 : decode cX11_undo 31 = .ok (.iconst 0, 1) := by decide +kernel
theorem dX11_undo_32 : decode cX11_undo 32 = .ok (.istore_n 1, 1) := by decide +kernel
theorem dX11_undo_33 : decode cX11_undo 33 = .ok (.iload_n 1, 1) := by decide +kernel
theorem dX11_undo_34 : decode cX11_undo 34 = .ok (.sipush 325, 3) := by decide +kernel
theorem dX11_undo_37 : decode cX11_undo 37 = .ok (.if_icmp .ge 30, 3) := by decide +kernel
theorem dX11_undo_40 : decode cX11_undo 40 = .ok (.aload_n 0, 1) := by decide +kernel
theorem dX11_undo_41 : decode cX11_undo 41 = .ok (.getfield 7, 3) := by decide +kernel
theorem dX11_undo_44 : decode cX11_undo 44 = .ok (.iload_n 1, 1) := by decide +kernel
theorem dX11_undo_45 : decode cX11_undo 45 = .ok (.aload_n 0, 1) := by decide +kernel
theorem dX11_undo_46 : decode cX11_undo 46 = .ok (.getfield 13, 3) := by decide +kernel
theorem dX11_undo_49 : decode cX11_undo 49 = .ok (.aload_n 0, 1) := by decide +kernel
theorem dX11_undo_50 : decode cX11_undo 50 = .ok (.getfield 63, 3) := by decide +kernel
theorem dX11_undo_53 : decode cX11_undo 53 = .ok (.sipush 325, 3) := by decide +kernel
theorem dX11_undo_56 : decode cX11_undo 56 = .ok (.imul, 1) := by decide +kernel
theorem dX11_undo_57 : decode cX11_undo 57 = .ok (.iload_n 1, 1) := by decide +kernel
theorem dX11_undo_58 : decode cX11_undo 58 = .ok (.iadd, 1) := by decide +kernel
theorem dX11_undo_59 : decode cX11_undo 59 = .ok (.iaload, 1) := by decide +kernel
theorem dX11_undo_60 : decode cX11_undo 60 = .ok (.iastore, 1) := by decide +kernel
theorem dX11_undo_61 : decode cX11_undo 61 = .ok (.iinc 1 1, 3) := by decide +kernel
theorem dX11_undo_64 : decode cX11_undo 64 = .ok (.goto (-31), 3) := by decide +kernel
theorem dX11_undo_67 : decode cX11_undo 67 = .ok (.aload_n 0, 1) := by decide +kernel
theorem dX11_undo_68 : decode cX11_undo 68 = .ok (.getfield 63, 3) := by decide +kernel
theorem dX11_undo_71 : decode cX11_undo 71 = .ok (.ireturn, 1) := by decide +kernel
set_option maxRecDepth 20000 in
theorem ggX11_takeSnapshot_X11_says : GoodIn wsX11_takeSnapshot wsX11_says := goodIn_r _ [8, 9, 10, 11, 12, 13, 14, 15, 16, 17, 18, 19, 20, 21, 22, 23, 24, 25, 26, 27, 28, 29, 30, 31, 32, 33, 34, 35] (by decide +kernel) (by decide +kernel)
set_option maxRecDepth 20000 in
theorem gX11_takeSnapshot_X11_says : GoodIn wsX11_takeSnapshot (wsV RX11 74 RX11 yX11_says wsX11_says) := goodIn_app (goodIn_of _ (by decide +kernel)) ggX11_takeSnapshot_X11_says
theorem dX11_takeSnapshot_0 : decode cX11_takeSnapshot 0 = .ok (.aload_n 0, 1) := by decide +kernel
theorem dX11_takeSnapshot_1 : decode cX11_takeSnapshot 1 = .ok (.iconst 1, 1) := by decide +kernel
theorem dX11_takeSnapshot_2 : decode cX11_takeSnapshot 2 = .ok (.putfield 70, 3) := by decide +kernel
theorem dX11_takeSnapshot_5 : decode cX11_takeSnapshot 5 = .ok (.iconst 0, 1) := by decide +kernel
theorem dX11_takeSnapshot_6 : decode cX11_takeSnapshot 6 = .ok (.istore_n 1, 1) := by decide +kernel
theorem dX11_takeSnapshot_7 : decode cX11_takeSnapshot 7 = .ok (.iload_n 1, 1) := by decide +kernel
theorem dX11_takeSnapshot_8 : decode cX11_takeSnapshot 8 = .ok (.sipush 325, 3) := by decide +kernel
theorem dX11_takeSnapshot_11 : decode cX11_takeSnapshot 11 = .ok (.if_icmp .ge 21, 3) := by decide +kernel
theorem dX11_takeSnapshot_14 : decode cX11_takeSnapshot 14 = .ok (.aload_n 0, 1) := by decide +kernel
theorem dX11_takeSnapshot_15 : decode cX11_takeSnapshot 15 = .ok (.getfield 16, 3) := by decide +kernel
theorem dX11_takeSnapshot_18 : decode cX11_takeSnapshot 18 = .ok (.iload_n 1, 1) := by decide +kernel
theorem dX11_takeSnapshot_19 : decode cX11_takeSnapshot 19 = .ok (.aload_n 0, 1) := by decide +kernel
theorem dX11_takeSnapshot_20 : decode cX11_takeSnapshot 20 = .ok (.getfield 7, 3) := by decide +kernel
theorem dX11_takeSnapshot_23 : decode cX11_takeSnapshot 23 = .ok (.iload_n 1, 1) := by decide +kernel
theorem dX11_takeSnapshot_24 : decode cX11_takeSnapshot 24 = .ok (.iaload, 1) := by decide +kernel
theorem dX11_takeSnapshot_25 : decode cX11_takeSnapshot 25 = .ok (.iastore, 1) := by decide +kernel
theorem dX11_takeSnapshot_26 : decode cX11_takeSnapshot 26 = .ok (.iinc 1 1, 3) := by decide +kernel
theorem dX11_takeSnapshot_29 : decode cX11_takeSnapshot 29 = .ok (.goto (-22), 3) := by decide +kernel
theorem dX11_takeSnapshot_32 : decode cX11_takeSnapshot 32 = .ok (.aload_n 0, 1) := by decide +kernel
theorem dX11_takeSnapshot_33 : decode cX11_takeSnapshot 33 = .ok (.aload_n 0, 1) := by decide +kernel
theorem dX11_takeSnapshot_34 : decode cX11_takeSnapshot 34 = .ok (.getfield 7, 3) := by decide +kernel
theorem dX11_takeSnapshot_37 : decode cX11_takeSnapshot 37 = .ok (.iconst 0, 1) := by decide +kernel
theorem dX11_takeSnapshot_38 : decode cX11_takeSnapshot 38 = .ok (.iaload, 1) := by decide +kernel
theorem dX11_takeSnapshot_39 : decode cX11_takeSnapshot 39 = .ok (.invokevirtual 74, 3) := by decide +kernel
theorem dX11_takeSnapshot_42 : decode cX11_takeSnapshot 42 = .ok (.ireturn, 1) := by decide +kernel
set_option maxRecDepth 20000 in
theorem ggX11_restoreSnapshot_X11_asks : GoodIn wsX11_restoreSnapshot wsX11_asks := goodIn_r _ [8, 9, 16, 17, 18, 19, 20, 21, 22, 23, 24, 25, 26, 27, 28, 29, 30, 31, 32, 33, 34, 35, 36, 37, 38, 39, 40, 41] (by decide +kernel) (by decide +kernel)
set_option maxRecDepth 20000 in
theorem gX11_restoreSnapshot_X11_asks : GoodIn wsX11_restoreSnapshot (wsV RX11 66 RX11 yX11_asks wsX11_asks) := goodIn_app (goodIn_of _ (by decide +kernel)) ggX11_restoreSnapshot_X11_asks
set_option maxRecDepth 20000 in
theorem ggX11_restoreSnapshot_X11_record : GoodIn wsX11_restoreSnapshot wsX11_record := goodIn_r _ [13, 14, 15, 2, 16, 17, 18, 19, 20, 21, 22, 23, 24, 25, 26, 27, 28, 29, 30, 31, 32, 33, 34, 35, 36, 37, 38, 39, 40, 41] (by decide +kernel) (by decide +kernel)
set_option maxRecDepth 20000 in
theorem gX11_restoreSnapshot_X11_record : GoodIn wsX11_restoreSnapshot (wsV RX11 78 RX11 yX11_record wsX11_record) := goodIn_app (goodIn_of _ (by decide +kernel)) ggX11_restoreSnapshot_X11_record
theorem dX11_restoreSnapshot_0 : decode cX11_restoreSnapshot 0 = .ok (.aload_n 0, 1) := by decide +kernel
theorem dX11_restoreSnapshot_1 : decode cX11_restoreSnapshot 1 = .ok (.aload_n 0, 1) := by decide +kernel
theorem dX11_restoreSnapshot_2 : decode cX11_restoreSnapshot 2 = .ok (.getfield 70, 3) := by decide +kernel
theorem dX11_restoreSnapshot_5 : decode cX11_restoreSnapshot 5 = .ok (.invokevirtual 66, 3) := by decide +kernel
theorem dX11_restoreSnapshot_8 : decode cX11_restoreSnapshot 8 = .ok (.ifCond .ne 5, 3) := by decide +kernel
theorem dX11_restoreSnapshot_11 : decode cX11_restoreSnapshot 11 = .ok (.iconst 0, 1) := by decide +kernel
theorem dX11_restoreSnapshot_12 : decode cX11_restoreSnapshot 12 = .ok (.ireturn, 1) := by decide +kernel
theorem dX11_restoreSnapshot_13 : decode cX11_restoreSnapshot 13 = .ok (.aload_n 0, 1) := by decide +kernel
theorem dX11_restoreSnapshot_14 : decode cX11_restoreSnapshot 14 = .ok (.invokevirtual 78, 3) := by decide +kernel
theorem dX11_restoreSnapshot_17 : decode cX11_restoreSnapshot 17 = .ok (.iconst 0, 1) := by decide +kernel
theorem dX11_restoreSnapshot_18 : decode cX11_restoreSnapshot 18 = .ok (.istore_n 1, 1) := by decide +kernel
theorem dX11_restoreSnapshot_19 : decode cX11_restoreSnapshot 19 = .ok (.iload_n 1, 1) := by decide +kernel
theorem dX11_restoreSnapshot_20 : decode cX11_restoreSnapshot 20 = .ok (.sipush 325, 3) := by decide +kernel
theorem dX11_restoreSnapshot_23 : decode cX11_restoreSnapshot 23 = .ok (.if_icmp .ge 21, 3) := by decide +kernel
theorem dX11_restoreSnapshot_26 : decode cX11_restoreSnapshot 26 = .ok (.aload_n 0, 1) := by decide +kernel
theorem dX11_restoreSnapshot_27 : decode cX11_restoreSnapshot 27 = .ok (.getfield 7, 3) := by decide +kernel
theorem dX11_restoreSnapshot_30 : decode cX11_restoreSnapshot 30 = .ok (.iload_n 1, 1) := by decide +kernel
theorem dX11_restoreSnapshot_31 : decode cX11_restoreSnapshot 31 = .ok (.aload_n 0, 1) := by decide +kernel
theorem dX11_restoreSnapshot_32 : decode cX11_restoreSnapshot 32 = .ok (.getfield 16, 3) := by decide +kernel
theorem dX11_restoreSnapshot_35 : decode cX11_restoreSnapshot 35 = .ok (.iload_n 1, 1) := by decide +kernel
theorem dX11_restoreSnapshot_36 : decode cX11_restoreSnapshot 36 = .ok (.iaload, 1) := by decide +kernel
theorem dX11_restoreSnapshot_37 : decode cX11_restoreSnapshot 37 = .ok (.iastore, 1) := by decide +kernel
theorem dX11_restoreSnapshot_38 : decode cX11_restoreSnapshot 38 = .ok (.iinc 1 1, 3) := by decide +kernel
theorem dX11_restoreSnapshot_41 : decode cX11_restoreSnapshot 41 = .ok (.goto (-22), 3) := by decide +kernel
theorem dX11_restoreSnapshot_44 : decode cX11_restoreSnapshot 44 = .ok (.aload_n 0, 1) := by decide +kernel
theorem dX11_restoreSnapshot_45 : decode cX11_restoreSnapshot 45 = .ok (.getfield 7, 3) := by decide +kernel
theorem dX11_restoreSnapshot_48 : decode cX11_restoreSnapshot 48 = .ok (.iconst 0, 1) := by decide +kernel
theorem dX11_restoreSnapshot_49 : decode cX11_restoreSnapshot 49 = .ok (.iaload, 1) := by decide +kernel
theorem dX11_restoreSnapshot_50 : decode cX11_restoreSnapshot 50 = .ok (.ireturn, 1) := by decide +kernel
set_option maxRecDepth 20000 in
theorem ggX11_recordedStates_X11_says : GoodIn wsX11_recordedStates wsX11_says := goodIn_r _ [6, 7, 8, 9, 10, 11, 12, 13, 14, 15, 16, 17, 18, 19, 20, 21, 22, 23, 24, 25, 26, 27, 28, 29, 30, 31, 32, 33] (by decide +kernel) (by decide +kernel)
set_option maxRecDepth 20000 in
theorem gX11_recordedStates_X11_says : GoodIn wsX11_recordedStates (wsV RX11 74 RX11 yX11_says wsX11_says) := goodIn_app (goodIn_of _ (by decide +kernel)) ggX11_recordedStates_X11_says
theorem dX11_recordedStates_0 : decode cX11_recordedStates 0 = .ok (.aload_n 0, 1) := by decide +kernel
theorem dX11_recordedStates_1 : decode cX11_recordedStates 1 = .ok (.aload_n 0, 1) := by decide +kernel
theorem dX11_recordedStates_2 : decode cX11_recordedStates 2 = .ok (.getfield 63, 3) := by decide +kernel
theorem dX11_recordedStates_5 : decode cX11_recordedStates 5 = .ok (.invokevirtual 74, 3) := by decide +kernel
theorem dX11_recordedStates_8 : decode cX11_recordedStates 8 = .ok (.ireturn, 1) := by decide +kernel
set_option maxRecDepth 20000 in
theorem ggX11_type_X11_asks : GoodIn wsX11_type wsX11_asks := goodIn_r _ [7, 8, 9, 10, 11, 12, 13, 14, 15, 16, 17, 18, 19, 20, 21, 22, 23, 24, 25, 26, 27, 28, 29, 30, 31, 32, 33, 34] (by decide +kernel) (by decide +kernel)
set_option maxRecDepth 20000 in
theorem gX11_type_X11_asks : GoodIn wsX11_type (wsV RX11 66 RX11 yX11_asks wsX11_asks) := goodIn_app (goodIn_of _ (by decide +kernel)) ggX11_type_X11_asks
theorem dX11_type_0 : decode cX11_type 0 = .ok (.aload_n 0, 1) := by decide +kernel
theorem dX11_type_1 : decode cX11_type 1 = .ok (.aload_n 0, 1) := by decide +kernel
theorem dX11_type_2 : decode cX11_type 2 = .ok (.getfield 81, 3) := by decide +kernel
theorem dX11_type_5 : decode cX11_type 5 = .ok (.bipush 40, 2) := by decide +kernel
theorem dX11_type_7 : decode cX11_type 7 = .ok (.if_icmp .ge 7, 3) := by decide +kernel
theorem dX11_type_10 : decode cX11_type 10 = .ok (.iconst 1, 1) := by decide +kernel
theorem dX11_type_11 : decode cX11_type 11 = .ok (.goto 4, 3) := by decide +kernel
theorem dX11_type_14 : decode cX11_type 14 = .ok (.iconst 0, 1) := by decide +kernel
theorem dX11_type_15 : decode cX11_type 15 = .ok (.invokevirtual 66, 3) := by decide +kernel
theorem dX11_type_18 : decode cX11_type 18 = .ok (.ifCond .ne 5, 3) := by decide +kernel
theorem dX11_type_21 : decode cX11_type 21 = .ok (.iconst 0, 1) := by decide +kernel
theorem dX11_type_22 : decode cX11_type 22 = .ok (.ireturn, 1) := by decide +kernel
theorem dX11_type_23 : decode cX11_type 23 = .ok (.aload_n 0, 1) := by decide +kernel
theorem dX11_type_24 : decode cX11_type 24 = .ok (.getfield 19, 3) := by decide +kernel
theorem dX11_type_27 : decode cX11_type 27 = .ok (.aload_n 0, 1) := by decide +kernel
theorem dX11_type_28 : decode cX11_type 28 = .ok (.getfield 81, 3) := by decide +kernel
theorem dX11_type_31 : decode cX11_type 31 = .ok (.iload_n 1, 1) := by decide +kernel
theorem dX11_type_32 : decode cX11_type 32 = .ok (.castore, 1) := by decide +kernel
theorem dX11_type_33 : decode cX11_type 33 = .ok (.aload_n 0, 1) := by decide +kernel
theorem dX11_type_34 : decode cX11_type 34 = .ok (.dup, 1) := by decide +kernel
theorem dX11_type_35 : decode cX11_type 35 = .ok (.getfield 81, 3) := by decide +kernel
theorem dX11_type_38 : decode cX11_type 38 = .ok (.iconst 1, 1) := by decide +kernel
theorem dX11_type_39 : decode cX11_type 39 = .ok (.iadd, 1) := by decide +kernel
theorem dX11_type_40 : decode cX11_type 40 = .ok (.putfield 81, 3) := by decide +kernel
theorem dX11_type_43 : decode cX11_type 43 = .ok (.aload_n 0, 1) := by decide +kernel
theorem dX11_type_44 : decode cX11_type 44 = .ok (.getfield 81, 3) := by decide +kernel
theorem dX11_type_47 : decode cX11_type 47 = .ok (.ireturn, 1) := by decide +kernel
set_option maxRecDepth 20000 in
theorem ggX11_clearText_X11_says : GoodIn wsX11_clearText wsX11_says := goodIn_r _ [6, 7, 8, 9, 10, 11, 12, 13, 14, 15, 16, 17, 18, 19, 20, 21, 22, 23, 24, 25, 26, 27, 28, 29, 30, 31, 32, 33] (by decide +kernel) (by decide +kernel)
set_option maxRecDepth 20000 in
theorem gX11_clearText_X11_says : GoodIn wsX11_clearText (wsV RX11 74 RX11 yX11_says wsX11_says) := goodIn_app (goodIn_of _ (by decide +kernel)) ggX11_clearText_X11_says
theorem dX11_clearText_0 : decode cX11_clearText 0 = .ok (.aload_n 0, 1) := by decide +kernel
theorem dX11_clearText_1 : decode cX11_clearText 1 = .ok (.getfield 81, 3) := by decide +kernel
theorem dX11_clearText_4 : decode cX11_clearText 4 = .ok (.istore_n 1, 1) := by decide +kernel
theorem dX11_clearText_5 : decode cX11_clearText 5 = .ok (.aload_n 0, 1) := by decide +kernel
theorem dX11_clearText_6 : decode cX11_clearText 6 = .ok (.iconst 0, 1) := by decide +kernel
theorem dX11_clearText_7 : decode cX11_clearText 7 = .ok (.putfield 81, 3) := by decide +kernel
theorem dX11_clearText_10 : decode cX11_clearText 10 = .ok (.aload_n 0, 1) := by decide +kernel
theorem dX11_clearText_11 : decode cX11_clearText 11 = .ok (.iload_n 1, 1) := by decide +kernel
theorem dX11_clearText_12 : decode cX11_clearText 12 = .ok (.invokevirtual 74, 3) := by decide +kernel
theorem dX11_clearText_15 : decode cX11_clearText 15 = .ok (.ireturn, 1) := by decide +kernel
theorem dX11_node_0 : decode cX11_node 0 = .ok (.aload_n 0, 1) := by decide +kernel
theorem dX11_node_1 : decode cX11_node 1 = .ok (.getfield 23, 3) := by decide +kernel
theorem dX11_node_4 : decode cX11_node 4 = .ok (.aload_n 0, 1) := by decide +kernel
theorem dX11_node_5 : decode cX11_node 5 = .ok (.getfield 84, 3) := by decide +kernel
theorem dX11_node_8 : decode cX11_node 8 = .ok (.iload_n 1, 1) := by decide +kernel
theorem dX11_node_9 : decode cX11_node 9 = .ok (.iastore, 1) := by decide +kernel
theorem dX11_node_10 : decode cX11_node 10 = .ok (.aload_n 0, 1) := by decide +kernel
theorem dX11_node_11 : decode cX11_node 11 = .ok (.getfield 26, 3) := by decide +kernel
theorem dX11_node_14 : decode cX11_node 14 = .ok (.aload_n 0, 1) := by decide +kernel
theorem dX11_node_15 : decode cX11_node 15 = .ok (.getfield 84, 3) := by decide +kernel
theorem dX11_node_18 : decode cX11_node 18 = .ok (.iload_n 2, 1) := by decide +kernel
theorem dX11_node_19 : decode cX11_node 19 = .ok (.iastore, 1) := by decide +kernel
theorem dX11_node_20 : decode cX11_node 20 = .ok (.aload_n 0, 1) := by decide +kernel
theorem dX11_node_21 : decode cX11_node 21 = .ok (.dup, 1) := by decide +kernel
theorem dX11_node_22 : decode cX11_node 22 = .ok (.getfield 84, 3) := by decide +kernel
theorem dX11_node_25 : decode cX11_node 25 = .ok (.iconst 1, 1) := by decide +kernel
theorem dX11_node_26 : decode cX11_node 26 = .ok (.iadd, 1) := by decide +kernel
theorem dX11_node_27 : decode cX11_node 27 = .ok (.putfield 84, 3) := by decide +kernel
theorem dX11_node_30 : decode cX11_node 30 = .ok (.return_, 1) := by decide +kernel
theorem dX11_waitsFor_0 : decode cX11_waitsFor 0 = .ok (.aload_n 0, 1) := by decide +kernel
theorem dX11_waitsFor_1 : decode cX11_waitsFor 1 = .ok (.getfield 29, 3) := by decide +kernel
theorem dX11_waitsFor_4 : decode cX11_waitsFor 4 = .ok (.iconst 2, 1) := by decide +kernel
theorem dX11_waitsFor_5 : decode cX11_waitsFor 5 = .ok (.aload_n 0, 1) := by decide +kernel
theorem dX11_waitsFor_6 : decode cX11_waitsFor 6 = .ok (.getfield 87, 3) := by decide +kernel
theorem dX11_waitsFor_9 : decode cX11_waitsFor 9 = .ok (.imul, 1) := by decide +kernel
theorem dX11_waitsFor_10 : decode cX11_waitsFor 10 = .ok (.iload_n 1, 1) := by decide +kernel
theorem dX11_waitsFor_11 : decode cX11_waitsFor 11 = .ok (.iastore, 1) := by decide +kernel
theorem dX11_waitsFor_12 : decode cX11_waitsFor 12 = .ok (.aload_n 0, 1) := by decide +kernel
theorem dX11_waitsFor_13 : decode cX11_waitsFor 13 = .ok (.getfield 29, 3) := by decide +kernel
theorem dX11_waitsFor_16 : decode cX11_waitsFor 16 = .ok (.iconst 2, 1) := by decide +kernel
theorem dX11_waitsFor_17 : decode cX11_waitsFor 17 = .ok (.aload_n 0, 1) := by decide +kernel
theorem dX11_waitsFor_18 : decode cX11_waitsFor 18 = .ok (.getfield 87, 3) := by decide +kernel
theorem dX11_waitsFor_21 : decode cX11_waitsFor 21 = .ok (.imul, 1) := by decide +kernel
theorem dX11_waitsFor_22 : decode cX11_waitsFor 22 = .ok (.iconst 1, 1) := by decide +kernel
theorem dX11_waitsFor_23 : decode cX11_waitsFor 23 = .ok (.iadd, 1) := by decide +kernel
theorem dX11_waitsFor_24 : decode cX11_waitsFor 24 = .ok (.iload_n 2, 1) := by decide +kernel
theorem dX11_waitsFor_25 : decode cX11_waitsFor 25 = .ok (.iastore, 1) := by decide +kernel
theorem dX11_waitsFor_26 : decode cX11_waitsFor 26 = .ok (.aload_n 0, 1) := by decide +kernel
theorem dX11_waitsFor_27 : decode cX11_waitsFor 27 = .ok (.dup, 1) := by decide +kernel
theorem dX11_waitsFor_28 : decode cX11_waitsFor 28 = .ok (.getfield 87, 3) := by decide +kernel
theorem dX11_waitsFor_31 : decode cX11_waitsFor 31 = .ok (.iconst 1, 1) := by decide +kernel
theorem dX11_waitsFor_32 : decode cX11_waitsFor 32 = .ok (.iadd, 1) := by decide +kernel
theorem dX11_waitsFor_33 : decode cX11_waitsFor 33 = .ok (.putfield 87, 3) := by decide +kernel
theorem dX11_waitsFor_36 : decode cX11_waitsFor 36 = .ok (.return_, 1) := by decide +kernel
theorem dX11_last_0 : decode cX11_last 0 = .ok (.aload_n 0, 1) := by decide +kernel
theorem dX11_last_1 : decode cX11_last 1 = .ok (.getfield 87, 3) := by decide +kernel
theorem dX11_last_4 : decode cX11_last 4 = .ok (.ifCond .ne 7, 3) := by decide +kernel
theorem dX11_last_7 : decode cX11_last 7 = .ok (.iconst (-1), 1) := by decide +kernel
theorem dX11_last_8 : decode cX11_last 8 = .ok (.goto 16, 3) := by decide +kernel
theorem dX11_last_11 : decode cX11_last 11 = .ok (.aload_n 0, 1) := by decide +kernel
theorem dX11_last_12 : decode cX11_last 12 = .ok (.getfield 29, 3) := by decide +kernel
theorem dX11_last_15 : decode cX11_last 15 = .ok (.iconst 2, 1) := by decide +kernel
theorem dX11_last_16 : decode cX11_last 16 = .ok (.aload_n 0, 1) := by decide +kernel
theorem dX11_last_17 : decode cX11_last 17 = .ok (.getfield 87, 3) := by decide +kernel
theorem dX11_last_20 : decode cX11_last 20 = .ok (.imul, 1) := by decide +kernel
theorem dX11_last_21 : decode cX11_last 21 = .ok (.iconst 2, 1) := by decide +kernel
theorem dX11_last_22 : decode cX11_last 22 = .ok (.isub, 1) := by decide +kernel
theorem dX11_last_23 : decode cX11_last 23 = .ok (.iaload, 1) := by decide +kernel
theorem dX11_last_24 : decode cX11_last 24 = .ok (.ireturn, 1) := by decide +kernel
set_option maxRecDepth 20000 in
theorem ggX11_comes_X11_node : GoodIn wsX11_comes wsX11_node := goodIn_r _ [7, 8, 9, 10, 11, 12, 13, 14, 15, 16, 17, 18, 19, 20, 21, 22, 23, 24, 25, 26, 27, 28, 29, 30, 31, 32, 33, 34, 35, 36] (by decide +kernel) (by decide +kernel)
set_option maxRecDepth 20000 in
theorem gX11_comes_X11_node : GoodIn wsX11_comes (wsV RX11 90 RX11 yX11_node wsX11_node) := goodIn_app (goodIn_of _ (by decide +kernel)) ggX11_comes_X11_node
theorem dX11_comes_0 : decode cX11_comes 0 = .ok (.aload_n 0, 1) := by decide +kernel
theorem dX11_comes_1 : decode cX11_comes 1 = .ok (.dup, 1) := by decide +kernel
theorem dX11_comes_2 : decode cX11_comes 2 = .ok (.getfield 87, 3) := by decide +kernel
theorem dX11_comes_5 : decode cX11_comes 5 = .ok (.iconst 1, 1) := by decide +kernel
theorem dX11_comes_6 : decode cX11_comes 6 = .ok (.isub, 1) := by decide +kernel
theorem dX11_comes_7 : decode cX11_comes 7 = .ok (.putfield 87, 3) := by decide +kernel
theorem dX11_comes_10 : decode cX11_comes 10 = .ok (.aload_n 0, 1) := by decide +kernel
theorem dX11_comes_11 : decode cX11_comes 11 = .ok (.aload_n 0, 1) := by decide +kernel
theorem dX11_comes_12 : decode cX11_comes 12 = .ok (.getfield 29, 3) := by decide +kernel
theorem dX11_comes_15 : decode cX11_comes 15 = .ok (.iconst 2, 1) := by decide +kernel
theorem dX11_comes_16 : decode cX11_comes 16 = .ok (.aload_n 0, 1) := by decide +kernel
theorem dX11_comes_17 : decode cX11_comes 17 = .ok (.getfield 87, 3) := by decide +kernel
theorem dX11_comes_20 : decode cX11_comes 20 = .ok (.imul, 1) := by decide +kernel
theorem dX11_comes_21 : decode cX11_comes 21 = .ok (.iaload, 1) := by decide +kernel
theorem dX11_comes_22 : decode cX11_comes 22 = .ok (.aload_n 0, 1) := by decide +kernel
theorem dX11_comes_23 : decode cX11_comes 23 = .ok (.getfield 29, 3) := by decide +kernel
theorem dX11_comes_26 : decode cX11_comes 26 = .ok (.iconst 2, 1) := by decide +kernel
theorem dX11_comes_27 : decode cX11_comes 27 = .ok (.aload_n 0, 1) := by decide +kernel
theorem dX11_comes_28 : decode cX11_comes 28 = .ok (.getfield 87, 3) := by decide +kernel
theorem dX11_comes_31 : decode cX11_comes 31 = .ok (.imul, 1) := by decide +kernel
theorem dX11_comes_32 : decode cX11_comes 32 = .ok (.iconst 1, 1) := by decide +kernel
theorem dX11_comes_33 : decode cX11_comes 33 = .ok (.iadd, 1) := by decide +kernel
theorem dX11_comes_34 : decode cX11_comes 34 = .ok (.iaload, 1) := by decide +kernel
theorem dX11_comes_35 : decode cX11_comes 35 = .ok (.invokevirtual 90, 3) := by decide +kernel
theorem dX11_comes_38 : decode cX11_comes 38 = .ok (.return_, 1) := by decide +kernel
set_option maxRecDepth 20000 in
theorem ggX11_atom_X11_last : GoodIn wsX11_atom wsX11_last := goodIn_r _ [5, 6, 7, 19, 20, 21, 22, 23, 24, 25, 26, 27, 28, 29, 30, 31, 32, 33, 34, 35, 36, 37, 38, 39, 40, 41, 42, 43, 44] (by decide +kernel) (by decide +kernel)
set_option maxRecDepth 20000 in
theorem gX11_atom_X11_last : GoodIn wsX11_atom (wsV RX11 94 RX11 yX11_last wsX11_last) := goodIn_app (goodIn_of _ (by decide +kernel)) ggX11_atom_X11_last
set_option maxRecDepth 20000 in
theorem ggX11_atom_X11_comes : GoodIn wsX11_atom wsX11_comes := goodIn_r _ [11, 6, 7, 12, 13, 14, 4, 15, 16, 17, 18, 19, 20, 21, 22, 23, 24, 25, 26, 27, 28, 29, 30, 31, 32, 33, 34, 35, 36, 37, 38, 39, 40, 41, 42, 43, 44] (by decide +kernel) (by decide +kernel)
set_option maxRecDepth 20000 in
theorem gX11_atom_X11_comes : GoodIn wsX11_atom (wsV RX11 98 RX11 yX11_comes wsX11_comes) := goodIn_app (goodIn_of _ (by decide +kernel)) ggX11_atom_X11_comes
theorem dX11_atom_0 : decode cX11_atom 0 = .ok (.aload_n 0, 1) := by decide +kernel
theorem dX11_atom_1 : decode cX11_atom 1 = .ok (.invokevirtual 94, 3) := by decide +kernel
theorem dX11_atom_4 : decode cX11_atom 4 = .ok (.iconst 2, 1) := by decide +kernel
theorem dX11_atom_5 : decode cX11_atom 5 = .ok (.if_icmp .ne 10, 3) := by decide +kernel
theorem dX11_atom_8 : decode cX11_atom 8 = .ok (.aload_n 0, 1) := by decide +kernel
theorem dX11_atom_9 : decode cX11_atom 9 = .ok (.invokevirtual 98, 3) := by decide +kernel
theorem dX11_atom_12 : decode cX11_atom 12 = .ok (.goto (-12), 3) := by decide +kernel
theorem dX11_atom_15 : decode cX11_atom 15 = .ok (.return_, 1) := by decide +kernel
set_option maxRecDepth 20000 in
theorem ggX11_binds_X11_last : GoodIn wsX11_binds wsX11_last := goodIn_r _ [5, 6, 7, 19, 20, 21, 22, 23, 24, 25, 26, 27, 28, 29, 30, 31, 32, 33, 34, 35, 36, 37, 38, 39, 40, 41, 42, 43, 44] (by decide +kernel) (by decide +kernel)
set_option maxRecDepth 20000 in
theorem gX11_binds_X11_last : GoodIn wsX11_binds (wsV RX11 94 RX11 yX11_last wsX11_last) := goodIn_app (goodIn_of _ (by decide +kernel)) ggX11_binds_X11_last
set_option maxRecDepth 20000 in
theorem ggX11_binds_X11_comes : GoodIn wsX11_binds wsX11_comes := goodIn_r _ [11, 6, 7, 12, 13, 14, 4, 15, 16, 17, 18, 19, 20, 21, 22, 23, 24, 25, 26, 27, 28, 29, 30, 31, 32, 33, 34, 35, 36, 37, 38, 39, 40, 41, 42, 43, 44] (by decide +kernel) (by decide +kernel)
set_option maxRecDepth 20000 in
theorem gX11_binds_X11_comes : GoodIn wsX11_binds (wsV RX11 98 RX11 yX11_comes wsX11_comes) := goodIn_app (goodIn_of _ (by decide +kernel)) ggX11_binds_X11_comes
theorem dX11_binds_0 : decode cX11_binds 0 = .ok (.aload_n 0, 1) := by decide +kernel
theorem dX11_binds_1 : decode cX11_binds 1 = .ok (.invokevirtual 94, 3) := by decide +kernel
theorem dX11_binds_4 : decode cX11_binds 4 = .ok (.iconst 5, 1) := by decide +kernel
theorem dX11_binds_5 : decode cX11_binds 5 = .ok (.if_icmp .eq 32, 3) := by decide +kernel
theorem dX11_binds_8 : decode cX11_binds 8 = .ok (.aload_n 0, 1) := by decide +kernel
theorem dX11_binds_9 : decode cX11_binds 9 = .ok (.invokevirtual 94, 3) := by decide +kernel
theorem dX11_binds_12 : decode cX11_binds 12 = .ok (.bipush 6, 2) := by decide +kernel
theorem dX11_binds_14 : decode cX11_binds 14 = .ok (.if_icmp .eq 23, 3) := by decide +kernel
theorem dX11_binds_17 : decode cX11_binds 17 = .ok (.iload_n 1, 1) := by decide +kernel
theorem dX11_binds_18 : decode cX11_binds 18 = .ok (.ifCond .eq 26, 3) := by decide +kernel
theorem dX11_binds_21 : decode cX11_binds 21 = .ok (.aload_n 0, 1) := by decide +kernel
theorem dX11_binds_22 : decode cX11_binds 22 = .ok (.invokevirtual 94, 3) := by decide +kernel
theorem dX11_binds_25 : decode cX11_binds 25 = .ok (.iconst 3, 1) := by decide +kernel
theorem dX11_binds_26 : decode cX11_binds 26 = .ok (.if_icmp .eq 11, 3) := by decide +kernel
theorem dX11_binds_29 : decode cX11_binds 29 = .ok (.aload_n 0, 1) := by decide +kernel
theorem dX11_binds_30 : decode cX11_binds 30 = .ok (.invokevirtual 94, 3) := by decide +kernel
theorem dX11_binds_33 : decode cX11_binds 33 = .ok (.iconst 4, 1) := by decide +kernel
theorem dX11_binds_34 : decode cX11_binds 34 = .ok (.if_icmp .ne 10, 3) := by decide +kernel
theorem dX11_binds_37 : decode cX11_binds 37 = .ok (.aload_n 0, 1) := by decide +kernel
theorem dX11_binds_38 : decode cX11_binds 38 = .ok (.invokevirtual 98, 3) := by decide +kernel
theorem dX11_binds_41 : decode cX11_binds 41 = .ok (.goto (-41), 3) := by decide +kernel
theorem dX11_binds_44 : decode cX11_binds 44 = .ok (.return_, 1) := by decide +kernel
theorem dX11_function_0 : decode cX11_function 0 = .ok (.iload_n 0, 1) := by decide +kernel
theorem dX11_function_1 : decode cX11_function 1 = .ok (.bipush 102, 2) := by decide +kernel
theorem dX11_function_3 : decode cX11_function 3 = .ok (.if_icmp .ne 7, 3) := by decide +kernel
theorem dX11_function_6 : decode cX11_function 6 = .ok (.iconst 0, 1) := by decide +kernel
theorem dX11_function_7 : decode cX11_function 7 = .ok (.goto 34, 3) := by decide +kernel
theorem dX11_function_10 : decode cX11_function 10 = .ok (.iload_n 0, 1) := by decide +kernel
theorem dX11_function_11 : decode cX11_function 11 = .ok (.bipush 103, 2) := by decide +kernel
theorem dX11_function_13 : decode cX11_function 13 = .ok (.if_icmp .ne 7, 3) := by decide +kernel
theorem dX11_function_16 : decode cX11_function 16 = .ok (.iconst 1, 1) := by decide +kernel
theorem dX11_function_17 : decode cX11_function 17 = .ok (.goto 24, 3) := by decide +kernel
theorem dX11_function_20 : decode cX11_function 20 = .ok (.iload_n 0, 1) := by decide +kernel
theorem dX11_function_21 : decode cX11_function 21 = .ok (.bipush 104, 2) := by decide +kernel
theorem dX11_function_23 : decode cX11_function 23 = .ok (.if_icmp .ne 7, 3) := by decide +kernel
theorem dX11_function_26 : decode cX11_function 26 = .ok (.iconst 2, 1) := by decide +kernel
theorem dX11_function_27 : decode cX11_function 27 = .ok (.goto 14, 3) := by decide +kernel
theorem dX11_function_30 : decode cX11_function 30 = .ok (.iload_n 0, 1) := by decide +kernel
theorem dX11_function_31 : decode cX11_function 31 = .ok (.bipush 107, 2) := by decide +kernel
theorem dX11_function_33 : decode cX11_function 33 = .ok (.if_icmp .ne 7, 3) := by decide +kernel
theorem dX11_function_36 : decode cX11_function 36 = .ok (.iconst 3, 1) := by decide +kernel
theorem dX11_function_37 : decode cX11_function 37 = .ok (.goto 4, 3) := by decide +kernel
theorem dX11_function_40 : decode cX11_function 40 = .ok (.iconst (-1), 1) := by decide +kernel
theorem dX11_function_41 : decode cX11_function 41 = .ok (.ireturn, 1) := by decide +kernel
set_option maxRecDepth 20000 in
theorem ggX11_begins_X11_in : GoodIn wsX11_begins wsX11_in := goodIn_r _ [7] (by decide +kernel) (by decide +kernel)
set_option maxRecDepth 20000 in
theorem gX11_begins_X11_in : GoodIn wsX11_begins (va_wsS RX11 101 yX11_in wsX11_in) := goodIn_app (goodIn_of _ (by decide +kernel)) ggX11_begins_X11_in
set_option maxRecDepth 20000 in
theorem ggX11_begins_X11_node : GoodIn wsX11_begins wsX11_node := goodIn_r _ [11, 12, 13, 14, 36, 37, 38, 39, 40, 41, 42, 43, 44, 45, 46, 47, 48, 49, 50, 51, 52, 53, 54, 55, 56, 57, 58, 59, 60, 61] (by decide +kernel) (by decide +kernel)
set_option maxRecDepth 20000 in
theorem gX11_begins_X11_node : GoodIn wsX11_begins (wsV RX11 90 RX11 yX11_node wsX11_node) := goodIn_app (goodIn_of _ (by decide +kernel)) ggX11_begins_X11_node
set_option maxRecDepth 20000 in
theorem ggX11_begins_X11_atom : GoodIn wsX11_begins wsX11_atom := goodIn_r _ [18, 19, 20, 21, 6, 22, 23, 24, 25, 26, 27, 28, 8, 9, 10, 11, 12, 13, 14, 36, 37, 38, 39, 40, 41, 42, 43, 44, 45, 46, 47, 48, 49, 50, 51, 52, 53, 54, 55, 56, 57, 58, 59, 60, 61] (by decide +kernel) (by decide +kernel)
set_option maxRecDepth 20000 in
theorem gX11_begins_X11_atom : GoodIn wsX11_begins (wsV RX11 111 RX11 yX11_atom wsX11_atom) := goodIn_app (goodIn_of _ (by decide +kernel)) ggX11_begins_X11_atom
set_option maxRecDepth 20000 in
theorem ggX11_begins_X11_waitsFor : GoodIn wsX11_begins wsX11_waitsFor := goodIn_r _ [32, 24, 23, 36, 37, 38, 39, 40, 41, 42, 43, 44, 45, 46, 47, 48, 49, 50, 51, 52, 53, 54, 55, 56, 57, 58, 59, 60, 61] (by decide +kernel) (by decide +kernel)
set_option maxRecDepth 20000 in
theorem gX11_begins_X11_waitsFor : GoodIn wsX11_begins (wsV RX11 114 RX11 yX11_waitsFor wsX11_waitsFor) := goodIn_app (goodIn_of _ (by decide +kernel)) ggX11_begins_X11_waitsFor
set_option maxRecDepth 20000 in
theorem ggX11_begins_X11_function : GoodIn wsX11_begins wsX11_function := goodIn_r _ [35] (by decide +kernel) (by decide +kernel)
set_option maxRecDepth 20000 in
theorem gX11_begins_X11_function : GoodIn wsX11_begins (va_wsS RX11 120 yX11_function wsX11_function) := goodIn_app (goodIn_of _ (by decide +kernel)) ggX11_begins_X11_function
theorem dX11_begins_0 : decode cX11_begins 0 = .ok (.iload_n 1, 1) := by decide +kernel
theorem dX11_begins_1 : decode cX11_begins 1 = .ok (.bipush 48, 2) := by decide +kernel
theorem dX11_begins_3 : decode cX11_begins 3 = .ok (.bipush 57, 2) := by decide +kernel
theorem dX11_begins_5 : decode cX11_begins 5 = .ok (.invokestatic 101, 3) := by decide +kernel
theorem dX11_begins_8 : decode cX11_begins 8 = .ok (.ifCond .eq 18, 3) := by decide +kernel
theorem dX11_begins_11 : decode cX11_begins 11 = .ok (.aload_n 0, 1) := by decide +kernel
theorem dX11_begins_12 : decode cX11_begins 12 = .ok (.iload_n 1, 1) := by decide +kernel
theorem dX11_begins_13 : decode cX11_begins 13 = .ok (.bipush 48, 2) := by decide +kernel
theorem dX11_begins_15 : decode cX11_begins 15 = .ok (.isub, 1) := by decide +kernel
theorem dX11_begins_16 : decode cX11_begins 16 = .ok (.putfield 105, 3) := by decide +kernel
theorem dX11_begins_19 : decode cX11_begins 19 = .ok (.aload_n 0, 1) := by decide +kernel
theorem dX11_begins_20 : decode cX11_begins 20 = .ok (.iconst 1, 1) := by decide +kernel
theorem dX11_begins_21 : decode cX11_begins 21 = .ok (.putfield 108, 3) := by decide +kernel
theorem dX11_begins_24 : decode cX11_begins 24 = .ok (.iconst 1, 1) := by decide +kernel
theorem dX11_begins_25 : decode cX11_begins 25 = .ok (.ireturn, 1) := by decide +kernel
theorem dX11_begins_26 : decode cX11_begins 26 = .ok (.iload_n 1, 1) := by decide +kernel
theorem dX11_begins_27 : decode cX11_begins 27 = .ok (.bipush 120, 2) := by decide +kernel
theorem dX11_begins_29 : decode cX11_begins 29 = .ok (.if_icmp .ne 20, 3) := by decide +kernel
theorem dX11_begins_32 : decode cX11_begins 32 = .ok (.aload_n 0, 1) := by decide +kernel
theorem dX11_begins_33 : decode cX11_begins 33 = .ok (.iconst 1, 1) := by decide +kernel
theorem dX11_begins_34 : decode cX11_begins 34 = .ok (.iconst 0, 1) := by decide +kernel
theorem dX11_begins_35 : decode cX11_begins 35 = .ok (.invokevirtual 90, 3) := by decide +kernel
theorem dX11_begins_38 : decode cX11_begins 38 = .ok (.aload_n 0, 1) := by decide +kernel
theorem dX11_begins_39 : decode cX11_begins 39 = .ok (.invokevirtual 111, 3) := by decide +kernel
theorem dX11_begins_42 : decode cX11_begins 42 = .ok (.aload_n 0, 1) := by decide +kernel
theorem dX11_begins_43 : decode cX11_begins 43 = .ok (.iconst 2, 1) := by decide +kernel
theorem dX11_begins_44 : decode cX11_begins 44 = .ok (.putfield 108, 3) := by decide +kernel
theorem dX11_begins_47 : decode cX11_begins 47 = .ok (.iconst 1, 1) := by decide +kernel
theorem dX11_begins_48 : decode cX11_begins 48 = .ok (.ireturn, 1) := by decide +kernel
theorem dX11_begins_49 : decode cX11_begins 49 = .ok (.iload_n 1, 1) := by decide +kernel
theorem dX11_begins_50 : decode cX11_begins 50 = .ok (.bipush 45, 2) := by decide +kernel
theorem dX11_begins_52 : decode cX11_begins 52 = .ok (.if_icmp .ne 11, 3) := by decide +kernel
theorem dX11_begins_55 : decode cX11_begins 55 = .ok (.aload_n 0, 1) := by decide +kernel
theorem dX11_begins_56 : decode cX11_begins 56 = .ok (.iconst 2, 1) := by decide +kernel
theorem dX11_begins_57 : decode cX11_begins 57 = .ok (.iconst 0, 1) := by decide +kernel
theorem dX11_begins_58 : decode cX11_begins 58 = .ok (.invokevirtual 114, 3) := by decide +kernel
theorem dX11_begins_61 : decode cX11_begins 61 = .ok (.iconst 1, 1) := by decide +kernel
theorem dX11_begins_62 : decode cX11_begins 62 = .ok (.ireturn, 1) := by decide +kernel
theorem dX11_begins_63 : decode cX11_begins 63 = .ok (.iload_n 1, 1) := by decide +kernel
theorem dX11_begins_64 : decode cX11_begins 64 = .ok (.bipush 40, 2) := by decide +kernel
theorem dX11_begins_66 : decode cX11_begins 66 = .ok (.if_icmp .ne 22, 3) := by decide +kernel
theorem dX11_begins_69 : decode cX11_begins 69 = .ok (.aload_n 0, 1) := by decide +kernel
theorem dX11_begins_70 : decode cX11_begins 70 = .ok (.bipush 9, 2) := by decide +kernel
theorem dX11_begins_72 : decode cX11_begins 72 = .ok (.iconst 0, 1) := by decide +kernel
theorem dX11_begins_73 : decode cX11_begins 73 = .ok (.invokevirtual 114, 3) := by decide +kernel
theorem dX11_begins_76 : decode cX11_begins 76 = .ok (.aload_n 0, 1) := by decide +kernel
theorem dX11_begins_77 : decode cX11_begins 77 = .ok (.dup, 1) := by decide +kernel
theorem dX11_begins_78 : decode cX11_begins 78 = .ok (.getfield 117, 3) := by decide +kernel
theorem dX11_begins_81 : decode cX11_begins 81 = .ok (.iconst 1, 1) := by decide +kernel
theorem dX11_begins_82 : decode cX11_begins 82 = .ok (.iadd, 1) := by decide +kernel
theorem dX11_begins_83 : decode cX11_begins 83 = .ok (.putfield 117, 3) := by decide +kernel
theorem dX11_begins_86 : decode cX11_begins 86 = .ok (.iconst 1, 1) := by decide +kernel
theorem dX11_begins_87 : decode cX11_begins 87 = .ok (.ireturn, 1) := by decide +kernel
theorem dX11_begins_88 : decode cX11_begins 88 = .ok (.iload_n 1, 1) := by decide +kernel
theorem dX11_begins_89 : decode cX11_begins 89 = .ok (.invokestatic 120, 3) := by decide +kernel
theorem dX11_begins_92 : decode cX11_begins 92 = .ok (.iconst (-1), 1) := by decide +kernel
theorem dX11_begins_93 : decode cX11_begins 93 = .ok (.if_icmp .eq 20, 3) := by decide +kernel
theorem dX11_begins_96 : decode cX11_begins 96 = .ok (.aload_n 0, 1) := by decide +kernel
theorem dX11_begins_97 : decode cX11_begins 97 = .ok (.bipush 8, 2) := by decide +kernel
theorem dX11_begins_99 : decode cX11_begins 99 = .ok (.iload_n 1, 1) := by decide +kernel
theorem dX11_begins_100 : decode cX11_begins 100 = .ok (.invokestatic 120, 3) := by decide +kernel
theorem dX11_begins_103 : decode cX11_begins 103 = .ok (.invokevirtual 114, 3) := by decide +kernel
theorem dX11_begins_106 : decode cX11_begins 106 = .ok (.aload_n 0, 1) := by decide +kernel
theorem dX11_begins_107 : decode cX11_begins 107 = .ok (.iconst 5, 1) := by decide +kernel
theorem dX11_begins_108 : decode cX11_begins 108 = .ok (.putfield 108, 3) := by decide +kernel
theorem dX11_begins_111 : decode cX11_begins 111 = .ok (.iconst 1, 1) := by decide +kernel
theorem dX11_begins_112 : decode cX11_begins 112 = .ok (.ireturn, 1) := by decide +kernel
theorem dX11_begins_113 : decode cX11_begins 113 = .ok (.iconst 0, 1) := by decide +kernel
theorem dX11_begins_114 : decode cX11_begins 114 = .ok (.ireturn, 1) := by decide +kernel
set_option maxRecDepth 20000 in
theorem ggX11_endsNumber_X11_node : GoodIn wsX11_endsNumber wsX11_node := goodIn_r _ [7, 8, 9, 10, 25, 26, 27, 28, 29, 30, 31, 32, 33, 34, 35, 36, 37, 38, 39, 40, 41, 42, 43, 44, 45, 46, 47, 48, 49, 50] (by decide +kernel) (by decide +kernel)
set_option maxRecDepth 20000 in
theorem gX11_endsNumber_X11_node : GoodIn wsX11_endsNumber (wsV RX11 90 RX11 yX11_node wsX11_node) := goodIn_app (goodIn_of _ (by decide +kernel)) ggX11_endsNumber_X11_node
set_option maxRecDepth 20000 in
theorem ggX11_endsNumber_X11_atom : GoodIn wsX11_endsNumber wsX11_atom := goodIn_r _ [14, 15, 16, 17, 6, 18, 19, 20, 21, 22, 23, 24, 3, 4, 5, 7, 8, 9, 10, 25, 26, 27, 28, 29, 30, 31, 32, 33, 34, 35, 36, 37, 38, 39, 40, 41, 42, 43, 44, 45, 46, 47, 48, 49, 50] (by decide +kernel) (by decide +kernel)
set_option maxRecDepth 20000 in
theorem gX11_endsNumber_X11_atom : GoodIn wsX11_endsNumber (wsV RX11 111 RX11 yX11_atom wsX11_atom) := goodIn_app (goodIn_of _ (by decide +kernel)) ggX11_endsNumber_X11_atom
theorem dX11_endsNumber_0 : decode cX11_endsNumber 0 = .ok (.aload_n 0, 1) := by decide +kernel
theorem dX11_endsNumber_1 : decode cX11_endsNumber 1 = .ok (.getfield 108, 3) := by decide +kernel
theorem dX11_endsNumber_4 : decode cX11_endsNumber 4 = .ok (.iconst 1, 1) := by decide +kernel
theorem dX11_endsNumber_5 : decode cX11_endsNumber 5 = .ok (.if_icmp .ne 21, 3) := by decide +kernel
theorem dX11_endsNumber_8 : decode cX11_endsNumber 8 = .ok (.aload_n 0, 1) := by decide +kernel
theorem dX11_endsNumber_9 : decode cX11_endsNumber 9 = .ok (.iconst 0, 1) := by decide +kernel
theorem dX11_endsNumber_10 : decode cX11_endsNumber 10 = .ok (.aload_n 0, 1) := by decide +kernel
theorem dX11_endsNumber_11 : decode cX11_endsNumber 11 = .ok (.getfield 105, 3) := by decide +kernel
theorem dX11_endsNumber_14 : decode cX11_endsNumber 14 = .ok (.invokevirtual 90, 3) := by decide +kernel
theorem dX11_endsNumber_17 : decode cX11_endsNumber 17 = .ok (.aload_n 0, 1) := by decide +kernel
theorem dX11_endsNumber_18 : decode cX11_endsNumber 18 = .ok (.invokevirtual 111, 3) := by decide +kernel
theorem dX11_endsNumber_21 : decode cX11_endsNumber 21 = .ok (.aload_n 0, 1) := by decide +kernel
theorem dX11_endsNumber_22 : decode cX11_endsNumber 22 = .ok (.iconst 2, 1) := by decide +kernel
theorem dX11_endsNumber_23 : decode cX11_endsNumber 23 = .ok (.putfield 108, 3) := by decide +kernel
theorem dX11_endsNumber_26 : decode cX11_endsNumber 26 = .ok (.return_, 1) := by decide +kernel
set_option maxRecDepth 20000 in
theorem ggX11_follows_X11_binds : GoodIn wsX11_follows wsX11_binds := goodIn_r _ [8, 9, 10, 11, 7, 12, 3, 13, 14, 15, 16, 17, 18, 19, 20, 21, 22, 23, 24, 33, 34, 35, 36, 37, 38, 39, 40, 41, 42, 43, 44, 45, 46, 47, 48, 49, 50, 51, 52, 53, 54, 55, 56, 57, 58] (by decide +kernel) (by decide +kernel)
set_option maxRecDepth 20000 in
theorem gX11_follows_X11_binds : GoodIn wsX11_follows (wsV RX11 123 RX11 yX11_binds wsX11_binds) := goodIn_app (goodIn_of _ (by decide +kernel)) ggX11_follows_X11_binds
set_option maxRecDepth 20000 in
theorem ggX11_follows_X11_last : GoodIn wsX11_follows wsX11_last := goodIn_r _ [12, 3, 13, 33, 34, 35, 36, 37, 38, 39, 40, 41, 42, 43, 44, 45, 46, 47, 48, 49, 50, 51, 52, 53, 54, 55, 56, 57, 58] (by decide +kernel) (by decide +kernel)
set_option maxRecDepth 20000 in
theorem gX11_follows_X11_last : GoodIn wsX11_follows (wsV RX11 94 RX11 yX11_last wsX11_last) := goodIn_app (goodIn_of _ (by decide +kernel)) ggX11_follows_X11_last
set_option maxRecDepth 20000 in
theorem ggX11_follows_X11_comes : GoodIn wsX11_follows wsX11_comes := goodIn_r _ [17, 3, 13, 18, 19, 20, 7, 21, 22, 23, 24, 33, 34, 35, 36, 37, 38, 39, 40, 41, 42, 43, 44, 45, 46, 47, 48, 49, 50, 51, 52, 53, 54, 55, 56, 57, 58] (by decide +kernel) (by decide +kernel)
set_option maxRecDepth 20000 in
theorem gX11_follows_X11_comes : GoodIn wsX11_follows (wsV RX11 98 RX11 yX11_comes wsX11_comes) := goodIn_app (goodIn_of _ (by decide +kernel)) ggX11_follows_X11_comes
set_option maxRecDepth 20000 in
theorem ggX11_follows_X11_atom : GoodIn wsX11_follows wsX11_atom := goodIn_r _ [28, 9, 10, 11, 7, 12, 3, 13, 14, 15, 16, 17, 18, 19, 20, 21, 22, 23, 24, 33, 34, 35, 36, 37, 38, 39, 40, 41, 42, 43, 44, 45, 46, 47, 48, 49, 50, 51, 52, 53, 54, 55, 56, 57, 58] (by decide +kernel) (by decide +kernel)
set_option maxRecDepth 20000 in
theorem gX11_follows_X11_atom : GoodIn wsX11_follows (wsV RX11 111 RX11 yX11_atom wsX11_atom) := goodIn_app (goodIn_of _ (by decide +kernel)) ggX11_follows_X11_atom
set_option maxRecDepth 20000 in
theorem ggX11_follows_X11_waitsFor : GoodIn wsX11_follows wsX11_waitsFor := goodIn_r _ [32, 13, 3, 33, 34, 35, 36, 37, 38, 39, 40, 41, 42, 43, 44, 45, 46, 47, 48, 49, 50, 51, 52, 53, 54, 55, 56, 57, 58] (by decide +kernel) (by decide +kernel)
set_option maxRecDepth 20000 in
theorem gX11_follows_X11_waitsFor : GoodIn wsX11_follows (wsV RX11 114 RX11 yX11_waitsFor wsX11_waitsFor) := goodIn_app (goodIn_of _ (by decide +kernel)) ggX11_follows_X11_waitsFor
theorem dX11_follows_0 : decode cX11_follows 0 = .ok (.iload_n 1, 1) := by decide +kernel
theorem dX11_follows_1 : decode cX11_follows 1 = .ok (.bipush 94, 2) := by decide +kernel
theorem dX11_follows_3 : decode cX11_follows 3 = .ok (.if_icmp .ne 18, 3) := by decide +kernel
theorem dX11_follows_6 : decode cX11_follows 6 = .ok (.aload_n 0, 1) := by decide +kernel
theorem dX11_follows_7 : decode cX11_follows 7 = .ok (.getfield 108, 3) := by decide +kernel
theorem dX11_follows_10 : decode cX11_follows 10 = .ok (.iconst 2, 1) := by decide +kernel
theorem dX11_follows_11 : decode cX11_follows 11 = .ok (.if_icmp .ne 10, 3) := by decide +kernel
theorem dX11_follows_14 : decode cX11_follows 14 = .ok (.aload_n 0, 1) := by decide +kernel
theorem dX11_follows_15 : decode cX11_follows 15 = .ok (.iconst 4, 1) := by decide +kernel
theorem dX11_follows_16 : decode cX11_follows 16 = .ok (.putfield 108, 3) := by decide +kernel
theorem dX11_follows_19 : decode cX11_follows 19 = .ok (.iconst 1, 1) := by decide +kernel
theorem dX11_follows_20 : decode cX11_follows 20 = .ok (.ireturn, 1) := by decide +kernel
theorem dX11_follows_21 : decode cX11_follows 21 = .ok (.iload_n 1, 1) := by decide +kernel
theorem dX11_follows_22 : decode cX11_follows 22 = .ok (.bipush 41, 2) := by decide +kernel
theorem dX11_follows_24 : decode cX11_follows 24 = .ok (.if_icmp .ne 59, 3) := by decide +kernel
theorem dX11_follows_27 : decode cX11_follows 27 = .ok (.aload_n 0, 1) := by decide +kernel
theorem dX11_follows_28 : decode cX11_follows 28 = .ok (.getfield 117, 3) := by decide +kernel
theorem dX11_follows_31 : decode cX11_follows 31 = .ok (.ifCond .le 52, 3) := by decide +kernel
theorem dX11_follows_34 : decode cX11_follows 34 = .ok (.aload_n 0, 1) := by decide +kernel
theorem dX11_follows_35 : decode cX11_follows 35 = .ok (.iconst 1, 1) := by decide +kernel
theorem dX11_follows_36 : decode cX11_follows 36 = .ok (.invokevirtual 123, 3) := by decide +kernel
theorem dX11_follows_39 : decode cX11_follows 39 = .ok (.aload_n 0, 1) := by decide +kernel
theorem dX11_follows_40 : decode cX11_follows 40 = .ok (.dup, 1) := by decide +kernel
theorem dX11_follows_41 : decode cX11_follows 41 = .ok (.getfield 87, 3) := by decide +kernel
theorem dX11_follows_44 : decode cX11_follows 44 = .ok (.iconst 1, 1) := by decide +kernel
theorem dX11_follows_45 : decode cX11_follows 45 = .ok (.isub, 1) := by decide +kernel
theorem dX11_follows_46 : decode cX11_follows 46 = .ok (.putfield 87, 3) := by decide +kernel
theorem dX11_follows_49 : decode cX11_follows 49 = .ok (.aload_n 0, 1) := by decide +kernel
theorem dX11_follows_50 : decode cX11_follows 50 = .ok (.dup, 1) := by decide +kernel
theorem dX11_follows_51 : decode cX11_follows 51 = .ok (.getfield 117, 3) := by decide +kernel
theorem dX11_follows_54 : decode cX11_follows 54 = .ok (.iconst 1, 1) := by decide +kernel
theorem dX11_follows_55 : decode cX11_follows 55 = .ok (.isub, 1) := by decide +kernel
theorem dX11_follows_56 : decode cX11_follows 56 = .ok (.putfield 117, 3) := by decide +kernel
theorem dX11_follows_59 : decode cX11_follows 59 = .ok (.aload_n 0, 1) := by decide +kernel
theorem dX11_follows_60 : decode cX11_follows 60 = .ok (.invokevirtual 94, 3) := by decide +kernel
theorem dX11_follows_63 : decode cX11_follows 63 = .ok (.bipush 8, 2) := by decide +kernel
theorem dX11_follows_65 : decode cX11_follows 65 = .ok (.if_icmp .ne 7, 3) := by decide +kernel
theorem dX11_follows_68 : decode cX11_follows 68 = .ok (.aload_n 0, 1) := by decide +kernel
theorem dX11_follows_69 : decode cX11_follows 69 = .ok (.invokevirtual 98, 3) := by decide +kernel
theorem dX11_follows_72 : decode cX11_follows 72 = .ok (.aload_n 0, 1) := by decide +kernel
theorem dX11_follows_73 : decode cX11_follows 73 = .ok (.invokevirtual 111, 3) := by decide +kernel
theorem dX11_follows_76 : decode cX11_follows 76 = .ok (.aload_n 0, 1) := by decide +kernel
theorem dX11_follows_77 : decode cX11_follows 77 = .ok (.iconst 2, 1) := by decide +kernel
theorem dX11_follows_78 : decode cX11_follows 78 = .ok (.putfield 108, 3) := by decide +kernel
theorem dX11_follows_81 : decode cX11_follows 81 = .ok (.iconst 1, 1) := by decide +kernel
theorem dX11_follows_82 : decode cX11_follows 82 = .ok (.ireturn, 1) := by decide +kernel
theorem dX11_follows_83 : decode cX11_follows 83 = .ok (.iload_n 1, 1) := by decide +kernel
theorem dX11_follows_84 : decode cX11_follows 84 = .ok (.bipush 43, 2) := by decide +kernel
theorem dX11_follows_86 : decode cX11_follows 86 = .ok (.if_icmp .eq 9, 3) := by decide +kernel
theorem dX11_follows_89 : decode cX11_follows 89 = .ok (.iload_n 1, 1) := by decide +kernel
theorem dX11_follows_90 : decode cX11_follows 90 = .ok (.bipush 45, 2) := by decide +kernel
theorem dX11_follows_92 : decode cX11_follows 92 = .ok (.if_icmp .ne 7, 3) := by decide +kernel
theorem dX11_follows_95 : decode cX11_follows 95 = .ok (.iconst 1, 1) := by decide +kernel
theorem dX11_follows_96 : decode cX11_follows 96 = .ok (.goto 4, 3) := by decide +kernel
theorem dX11_follows_99 : decode cX11_follows 99 = .ok (.iconst 0, 1) := by decide +kernel
theorem dX11_follows_100 : decode cX11_follows 100 = .ok (.istore_n 2, 1) := by decide +kernel
theorem dX11_follows_101 : decode cX11_follows 101 = .ok (.iload_n 2, 1) := by decide +kernel
theorem dX11_follows_102 : decode cX11_follows 102 = .ok (.ifCond .ne 15, 3) := by decide +kernel
theorem dX11_follows_105 : decode cX11_follows 105 = .ok (.iload_n 1, 1) := by decide +kernel
theorem dX11_follows_106 : decode cX11_follows 106 = .ok (.bipush 42, 2) := by decide +kernel
theorem dX11_follows_108 : decode cX11_follows 108 = .ok (.if_icmp .eq 9, 3) := by decide +kernel
theorem dX11_follows_111 : decode cX11_follows 111 = .ok (.iload_n 1, 1) := by decide +kernel
theorem dX11_follows_112 : decode cX11_follows 112 = .ok (.bipush 47, 2) := by decide +kernel
theorem dX11_follows_114 : decode cX11_follows 114 = .ok (.if_icmp .ne 52, 3) := by decide +kernel
theorem dX11_follows_117 : decode cX11_follows 117 = .ok (.aload_n 0, 1) := by decide +kernel
theorem dX11_follows_118 : decode cX11_follows 118 = .ok (.iload_n 2, 1) := by decide +kernel
theorem dX11_follows_119 : decode cX11_follows 119 = .ok (.invokevirtual 123, 3) := by decide +kernel
theorem dX11_follows_122 : decode cX11_follows 122 = .ok (.aload_n 0, 1) := by decide +kernel
theorem dX11_follows_123 : decode cX11_follows 123 = .ok (.iload_n 1, 1) := by decide +kernel
theorem dX11_follows_124 : decode cX11_follows 124 = .ok (.bipush 43, 2) := by decide +kernel
theorem dX11_follows_126 : decode cX11_follows 126 = .ok (.if_icmp .ne 7, 3) := by decide +kernel
theorem dX11_follows_129 : decode cX11_follows 129 = .ok (.iconst 3, 1) := by decide +kernel
theorem dX11_follows_130 : decode cX11_follows 130 = .ok (.goto 25, 3) := by decide +kernel
theorem dX11_follows_133 : decode cX11_follows 133 = .ok (.iload_n 1, 1) := by decide +kernel
theorem dX11_follows_134 : decode cX11_follows 134 = .ok (.bipush 45, 2) := by decide +kernel
theorem dX11_follows_136 : decode cX11_follows 136 = .ok (.if_icmp .ne 7, 3) := by decide +kernel
theorem dX11_follows_139 : decode cX11_follows 139 = .ok (.iconst 4, 1) := by decide +kernel
theorem dX11_follows_140 : decode cX11_follows 140 = .ok (.goto 15, 3) := by decide +kernel
theorem dX11_follows_143 : decode cX11_follows 143 = .ok (.iload_n 1, 1) := by decide +kernel
theorem dX11_follows_144 : decode cX11_follows 144 = .ok (.bipush 42, 2) := by decide +kernel
theorem dX11_follows_146 : decode cX11_follows 146 = .ok (.if_icmp .ne 7, 3) := by decide +kernel
theorem dX11_follows_149 : decode cX11_follows 149 = .ok (.iconst 5, 1) := by decide +kernel
theorem dX11_follows_150 : decode cX11_follows 150 = .ok (.goto 5, 3) := by decide +kernel
theorem dX11_follows_153 : decode cX11_follows 153 = .ok (.bipush 6, 2) := by decide +kernel
theorem dX11_follows_155 : decode cX11_follows 155 = .ok (.iconst 0, 1) := by decide +kernel
theorem dX11_follows_156 : decode cX11_follows 156 = .ok (.invokevirtual 114, 3) := by decide +kernel
theorem dX11_follows_159 : decode cX11_follows 159 = .ok (.aload_n 0, 1) := by decide +kernel
theorem dX11_follows_160 : decode cX11_follows 160 = .ok (.iconst 0, 1) := by decide +kernel
theorem dX11_follows_161 : decode cX11_follows 161 = .ok (.putfield 108, 3) := by decide +kernel
theorem dX11_follows_164 : decode cX11_follows 164 = .ok (.iconst 1, 1) := by decide +kernel
theorem dX11_follows_165 : decode cX11_follows 165 = .ok (.ireturn, 1) := by decide +kernel
theorem dX11_follows_166 : decode cX11_follows 166 = .ok (.iconst 0, 1) := by decide +kernel
theorem dX11_follows_167 : decode cX11_follows 167 = .ok (.ireturn, 1) := by decide +kernel
set_option maxRecDepth 20000 in
theorem ggX11_reads_X11_begins : GoodIn wsX11_reads wsX11_begins := goodIn_r _ [8, 3, 1, 2, 9, 10, 7, 11, 12, 13, 14, 15, 16, 17, 18, 19, 20, 21, 22, 23, 24, 25, 26, 27, 28, 29, 30, 31, 32, 33, 34, 35, 36, 37, 38, 39, 52, 53, 54, 55, 56, 57, 58, 59, 60, 61, 62, 63, 64, 65, 66, 67, 68, 69, 70, 71, 72, 73, 74, 75, 76, 77] (by decide +kernel) (by decide +kernel)
set_option maxRecDepth 20000 in
theorem gX11_reads_X11_begins : GoodIn wsX11_reads (wsV RX11 127 RX11 yX11_begins wsX11_begins) := goodIn_app (goodIn_of _ (by decide +kernel)) ggX11_reads_X11_begins
set_option maxRecDepth 20000 in
theorem ggX11_reads_X11_in : GoodIn wsX11_reads wsX11_in := goodIn_r _ [11] (by decide +kernel) (by decide +kernel)
set_option maxRecDepth 20000 in
theorem gX11_reads_X11_in : GoodIn wsX11_reads (va_wsS RX11 101 yX11_in wsX11_in) := goodIn_app (goodIn_of _ (by decide +kernel)) ggX11_reads_X11_in
set_option maxRecDepth 20000 in
theorem ggX11_reads_X11_node : GoodIn wsX11_reads wsX11_node := goodIn_r _ [15, 16, 17, 18, 52, 53, 54, 55, 56, 57, 58, 59, 60, 61, 62, 63, 64, 65, 66, 67, 68, 69, 70, 71, 72, 73, 74, 75, 76, 77] (by decide +kernel) (by decide +kernel)
set_option maxRecDepth 20000 in
theorem gX11_reads_X11_node : GoodIn wsX11_reads (wsV RX11 90 RX11 yX11_node wsX11_node) := goodIn_app (goodIn_of _ (by decide +kernel)) ggX11_reads_X11_node
set_option maxRecDepth 20000 in
theorem ggX11_reads_X11_waitsFor : GoodIn wsX11_reads wsX11_waitsFor := goodIn_r _ [36, 28, 27, 52, 53, 54, 55, 56, 57, 58, 59, 60, 61, 62, 63, 64, 65, 66, 67, 68, 69, 70, 71, 72, 73, 74, 75, 76, 77] (by decide +kernel) (by decide +kernel)
set_option maxRecDepth 20000 in
theorem gX11_reads_X11_waitsFor : GoodIn wsX11_reads (wsV RX11 114 RX11 yX11_waitsFor wsX11_waitsFor) := goodIn_app (goodIn_of _ (by decide +kernel)) ggX11_reads_X11_waitsFor
set_option maxRecDepth 20000 in
theorem ggX11_reads_X11_endsNumber : GoodIn wsX11_reads wsX11_endsNumber := goodIn_r _ [43, 1, 3, 12, 13, 14, 7, 15, 16, 17, 18, 19, 20, 21, 22, 23, 24, 25, 26, 27, 28, 29, 30, 31, 32, 52, 53, 54, 55, 56, 57, 58, 59, 60, 61, 62, 63, 64, 65, 66, 67, 68, 69, 70, 71, 72, 73, 74, 75, 76, 77] (by decide +kernel) (by decide +kernel)
set_option maxRecDepth 20000 in
theorem gX11_reads_X11_endsNumber : GoodIn wsX11_reads (wsV RX11 131 RX11 yX11_endsNumber wsX11_endsNumber) := goodIn_app (goodIn_of _ (by decide +kernel)) ggX11_reads_X11_endsNumber
set_option maxRecDepth 20000 in
theorem ggX11_reads_X11_follows : GoodIn wsX11_reads wsX11_follows := goodIn_r _ [47, 1, 2, 27, 48, 49, 50, 7, 51, 23, 24, 25, 26, 28, 29, 30, 31, 32, 12, 13, 14, 15, 16, 17, 18, 19, 20, 21, 22, 33, 34, 35, 36, 52, 53, 54, 55, 56, 57, 58, 59, 60, 61, 62, 63, 64, 65, 66, 67, 68, 69, 70, 71, 72, 73, 74, 75, 76, 77] (by decide +kernel) (by decide +kernel)
set_option maxRecDepth 20000 in
theorem gX11_reads_X11_follows : GoodIn wsX11_reads (wsV RX11 134 RX11 yX11_follows wsX11_follows) := goodIn_app (goodIn_of _ (by decide +kernel)) ggX11_reads_X11_follows
theorem dX11_reads_0 : decode cX11_reads 0 = .ok (.aload_n 0, 1) := by decide +kernel
theorem dX11_reads_1 : decode cX11_reads 1 = .ok (.getfield 108, 3) := by decide +kernel
theorem dX11_reads_4 : decode cX11_reads 4 = .ok (.ifCond .ne 9, 3) := by decide +kernel
theorem dX11_reads_7 : decode cX11_reads 7 = .ok (.aload_n 0, 1) := by decide +kernel
theorem dX11_reads_8 : decode cX11_reads 8 = .ok (.iload_n 1, 1) := by decide +kernel
theorem dX11_reads_9 : decode cX11_reads 9 = .ok (.invokevirtual 127, 3) := by decide +kernel
theorem dX11_reads_12 : decode cX11_reads 12 = .ok (.ireturn, 1) := by decide +kernel
theorem dX11_reads_13 : decode cX11_reads 13 = .ok (.aload_n 0, 1) := by decide +kernel
theorem dX11_reads_14 : decode cX11_reads 14 = .ok (.getfield 108, 3) := by decide +kernel
theorem dX11_reads_17 : decode cX11_reads 17 = .ok (.iconst 4, 1) := by decide +kernel
theorem dX11_reads_18 : decode cX11_reads 18 = .ok (.if_icmp .ne 33, 3) := by decide +kernel
theorem dX11_reads_21 : decode cX11_reads 21 = .ok (.iload_n 1, 1) := by decide +kernel
theorem dX11_reads_22 : decode cX11_reads 22 = .ok (.bipush 48, 2) := by decide +kernel
theorem dX11_reads_24 : decode cX11_reads 24 = .ok (.bipush 57, 2) := by decide +kernel
theorem dX11_reads_26 : decode cX11_reads 26 = .ok (.invokestatic 101, 3) := by decide +kernel
theorem dX11_reads_29 : decode cX11_reads 29 = .ok (.istore_n 2, 1) := by decide +kernel
theorem dX11_reads_30 : decode cX11_reads 30 = .ok (.iload_n 2, 1) := by decide +kernel
theorem dX11_reads_31 : decode cX11_reads 31 = .ok (.ifCond .eq 13, 3) := by decide +kernel
theorem dX11_reads_34 : decode cX11_reads 34 = .ok (.aload_n 0, 1) := by decide +kernel
theorem dX11_reads_35 : decode cX11_reads 35 = .ok (.bipush 7, 2) := by decide +kernel
theorem dX11_reads_37 : decode cX11_reads 37 = .ok (.iload_n 1, 1) := by decide +kernel
theorem dX11_reads_38 : decode cX11_reads 38 = .ok (.bipush 48, 2) := by decide +kernel
theorem dX11_reads_40 : decode cX11_reads 40 = .ok (.isub, 1) := by decide +kernel
theorem dX11_reads_41 : decode cX11_reads 41 = .ok (.invokevirtual 90, 3) := by decide +kernel
theorem dX11_reads_44 : decode cX11_reads 44 = .ok (.aload_n 0, 1) := by decide +kernel
theorem dX11_reads_45 : decode cX11_reads 45 = .ok (.iconst 3, 1) := by decide +kernel
theorem dX11_reads_46 : decode cX11_reads 46 = .ok (.putfield 108, 3) := by decide +kernel
theorem dX11_reads_49 : decode cX11_reads 49 = .ok (.iload_n 2, 1) := by decide +kernel
theorem dX11_reads_50 : decode cX11_reads 50 = .ok (.ireturn, 1) := by decide +kernel
theorem dX11_reads_51 : decode cX11_reads 51 = .ok (.aload_n 0, 1) := by decide +kernel
theorem dX11_reads_52 : decode cX11_reads 52 = .ok (.getfield 108, 3) := by decide +kernel
theorem dX11_reads_55 : decode cX11_reads 55 = .ok (.iconst 5, 1) := by decide +kernel
theorem dX11_reads_56 : decode cX11_reads 56 = .ok (.if_icmp .ne 37, 3) := by decide +kernel
theorem dX11_reads_59 : decode cX11_reads 59 = .ok (.aload_n 0, 1) := by decide +kernel
theorem dX11_reads_60 : decode cX11_reads 60 = .ok (.bipush 9, 2) := by decide +kernel
theorem dX11_reads_62 : decode cX11_reads 62 = .ok (.iconst 0, 1) := by decide +kernel
theorem dX11_reads_63 : decode cX11_reads 63 = .ok (.invokevirtual 114, 3) := by decide +kernel
theorem dX11_reads_66 : decode cX11_reads 66 = .ok (.aload_n 0, 1) := by decide +kernel
theorem dX11_reads_67 : decode cX11_reads 67 = .ok (.dup, 1) := by decide +kernel
theorem dX11_reads_68 : decode cX11_reads 68 = .ok (.getfield 117, 3) := by decide +kernel
theorem dX11_reads_71 : decode cX11_reads 71 = .ok (.iconst 1, 1) := by decide +kernel
theorem dX11_reads_72 : decode cX11_reads 72 = .ok (.iadd, 1) := by decide +kernel
theorem dX11_reads_73 : decode cX11_reads 73 = .ok (.putfield 117, 3) := by decide +kernel
theorem dX11_reads_76 : decode cX11_reads 76 = .ok (.aload_n 0, 1) := by decide +kernel
theorem dX11_reads_77 : decode cX11_reads 77 = .ok (.iconst 0, 1) := by decide +kernel
theorem dX11_reads_78 : decode cX11_reads 78 = .ok (.putfield 108, 3) := by decide +kernel
theorem dX11_reads_81 : decode cX11_reads 81 = .ok (.iload_n 1, 1) := by decide +kernel
theorem dX11_reads_82 : decode cX11_reads 82 = .ok (.bipush 40, 2) := by decide +kernel
theorem dX11_reads_84 : decode cX11_reads 84 = .ok (.if_icmp .ne 7, 3) := by decide +kernel
theorem dX11_reads_87 : decode cX11_reads 87 = .ok (.iconst 1, 1) := by decide +kernel
theorem dX11_reads_88 : decode cX11_reads 88 = .ok (.goto 4, 3) := by decide +kernel
theorem dX11_reads_91 : decode cX11_reads 91 = .ok (.iconst 0, 1) := by decide +kernel
theorem dX11_reads_92 : decode cX11_reads 92 = .ok (.ireturn, 1) := by decide +kernel
theorem dX11_reads_93 : decode cX11_reads 93 = .ok (.aload_n 0, 1) := by decide +kernel
theorem dX11_reads_94 : decode cX11_reads 94 = .ok (.getfield 108, 3) := by decide +kernel
theorem dX11_reads_97 : decode cX11_reads 97 = .ok (.iconst 1, 1) := by decide +kernel
theorem dX11_reads_98 : decode cX11_reads 98 = .ok (.if_icmp .ne 54, 3) := by decide +kernel
theorem dX11_reads_101 : decode cX11_reads 101 = .ok (.iload_n 1, 1) := by decide +kernel
theorem dX11_reads_102 : decode cX11_reads 102 = .ok (.bipush 48, 2) := by decide +kernel
theorem dX11_reads_104 : decode cX11_reads 104 = .ok (.bipush 57, 2) := by decide +kernel
theorem dX11_reads_106 : decode cX11_reads 106 = .ok (.invokestatic 101, 3) := by decide +kernel
theorem dX11_reads_109 : decode cX11_reads 109 = .ok (.ifCond .eq 43, 3) := by decide +kernel
theorem dX11_reads_112 : decode cX11_reads 112 = .ok (.aload_n 0, 1) := by decide +kernel
theorem dX11_reads_113 : decode cX11_reads 113 = .ok (.getfield 105, 3) := by decide +kernel
theorem dX11_reads_116 : decode cX11_reads 116 = .ok (.ifCond .le 16, 3) := by decide +kernel
theorem dX11_reads_119 : decode cX11_reads 119 = .ok (.aload_n 0, 1) := by decide +kernel
theorem dX11_reads_120 : decode cX11_reads 120 = .ok (.getfield 105, 3) := by decide +kernel
theorem dX11_reads_123 : decode cX11_reads 123 = .ok (.bipush 100, 2) := by decide +kernel
theorem dX11_reads_125 : decode cX11_reads 125 = .ok (.if_icmp .ge 7, 3) := by decide +kernel
theorem dX11_reads_128 : decode cX11_reads 128 = .ok (.iconst 1, 1) := by decide +kernel
theorem dX11_reads_129 : decode cX11_reads 129 = .ok (.goto 4, 3) := by decide +kernel
theorem dX11_reads_132 : decode cX11_reads 132 = .ok (.iconst 0, 1) := by decide +kernel
theorem dX11_reads_133 : decode cX11_reads 133 = .ok (.istore_n 2, 1) := by decide +kernel
theorem dX11_reads_134 : decode cX11_reads 134 = .ok (.aload_n 0, 1) := by decide +kernel
theorem dX11_reads_135 : decode cX11_reads 135 = .ok (.bipush 10, 2) := by decide +kernel
theorem dX11_reads_137 : decode cX11_reads 137 = .ok (.aload_n 0, 1) := by decide +kernel
theorem dX11_reads_138 : decode cX11_reads 138 = .ok (.getfield 105, 3) := by decide +kernel
theorem dX11_reads_141 : decode cX11_reads 141 = .ok (.imul, 1) := by decide +kernel
theorem dX11_reads_142 : decode cX11_reads 142 = .ok (.iload_n 1, 1) := by decide +kernel
theorem dX11_reads_143 : decode cX11_reads 143 = .ok (.iadd, 1) := by decide +kernel
theorem dX11_reads_144 : decode cX11_reads 144 = .ok (.bipush 48, 2) := by decide +kernel
theorem dX11_reads_146 : decode cX11_reads 146 = .ok (.isub, 1) := by decide +kernel
theorem dX11_reads_147 : decode cX11_reads 147 = .ok (.putfield 105, 3) := by decide +kernel
theorem dX11_reads_150 : decode cX11_reads 150 = .ok (.iload_n 2, 1) := by decide +kernel
theorem dX11_reads_151 : decode cX11_reads 151 = .ok (.ireturn, 1) := by decide +kernel
theorem dX11_reads_152 : decode cX11_reads 152 = .ok (.aload_n 0, 1) := by decide +kernel
theorem dX11_reads_153 : decode cX11_reads 153 = .ok (.invokevirtual 131, 3) := by decide +kernel
theorem dX11_reads_156 : decode cX11_reads 156 = .ok (.aload_n 0, 1) := by decide +kernel
theorem dX11_reads_157 : decode cX11_reads 157 = .ok (.iload_n 1, 1) := by decide +kernel
theorem dX11_reads_158 : decode cX11_reads 158 = .ok (.invokevirtual 134, 3) := by decide +kernel
theorem dX11_reads_161 : decode cX11_reads 161 = .ok (.ireturn, 1) := by decide +kernel
set_option maxRecDepth 20000 in
theorem ggX11_readText_X11_reads : GoodIn wsX11_readText wsX11_reads := goodIn_r _ [11, 3, 4, 12, 13, 14, 15, 10, 16, 17, 18, 19, 20, 21, 22, 23, 24, 1, 25, 26, 27, 28, 29, 30, 31, 32, 33, 2, 34, 35, 36, 37, 38, 39, 40, 41, 42, 43, 44, 45, 46, 47, 48, 49, 50, 51, 52, 53, 54, 55, 56, 57, 58, 59, 60, 61, 62, 63, 64, 65, 66, 67, 68, 69, 70, 71, 72, 73, 74, 75, 76, 77, 78, 79, 80, 81, 82, 83] (by decide +kernel) (by decide +kernel)
set_option maxRecDepth 20000 in
theorem gX11_readText_X11_reads : GoodIn wsX11_readText (wsV RX11 137 RX11 yX11_reads wsX11_reads) := goodIn_app (goodIn_of _ (by decide +kernel)) ggX11_readText_X11_reads
set_option maxRecDepth 20000 in
theorem ggX11_readText_X11_endsNumber : GoodIn wsX11_readText wsX11_endsNumber := goodIn_r _ [49, 3, 12, 20, 21, 22, 10, 23, 24, 1, 25, 26, 27, 28, 29, 30, 31, 32, 33, 2, 34, 35, 36, 37, 38, 58, 59, 60, 61, 62, 63, 64, 65, 66, 67, 68, 69, 70, 71, 72, 73, 74, 75, 76, 77, 78, 79, 80, 81, 82, 83] (by decide +kernel) (by decide +kernel)
set_option maxRecDepth 20000 in
theorem gX11_readText_X11_endsNumber : GoodIn wsX11_readText (wsV RX11 131 RX11 yX11_endsNumber wsX11_endsNumber) := goodIn_app (goodIn_of _ (by decide +kernel)) ggX11_readText_X11_endsNumber
set_option maxRecDepth 20000 in
theorem ggX11_readText_X11_binds : GoodIn wsX11_readText wsX11_binds := goodIn_r _ [57, 30, 31, 32, 10, 33, 2, 34, 35, 36, 37, 38, 20, 21, 22, 23, 24, 1, 25, 58, 59, 60, 61, 62, 63, 64, 65, 66, 67, 68, 69, 70, 71, 72, 73, 74, 75, 76, 77, 78, 79, 80, 81, 82, 83] (by decide +kernel) (by decide +kernel)
set_option maxRecDepth 20000 in
theorem gX11_readText_X11_binds : GoodIn wsX11_readText (wsV RX11 123 RX11 yX11_binds wsX11_binds) := goodIn_app (goodIn_of _ (by decide +kernel)) ggX11_readText_X11_binds
theorem dX11_readText_0 : decode cX11_readText 0 = .ok (.aload_n 0, 1) := by decide +kernel
theorem dX11_readText_1 : decode cX11_readText 1 = .ok (.iconst 0, 1) := by decide +kernel
theorem dX11_readText_2 : decode cX11_readText 2 = .ok (.putfield 84, 3) := by decide +kernel
theorem dX11_readText_5 : decode cX11_readText 5 = .ok (.aload_n 0, 1) := by decide +kernel
theorem dX11_readText_6 : decode cX11_readText 6 = .ok (.iconst 0, 1) := by decide +kernel
theorem dX11_readText_7 : decode cX11_readText 7 = .ok (.putfield 87, 3) := by decide +kernel
theorem dX11_readText_10 : decode cX11_readText 10 = .ok (.aload_n 0, 1) := by decide +kernel
theorem dX11_readText_11 : decode cX11_readText 11 = .ok (.iconst 0, 1) := by decide +kernel
theorem dX11_readText_12 : decode cX11_readText 12 = .ok (.putfield 108, 3) := by decide +kernel
theorem dX11_readText_15 : decode cX11_readText 15 = .ok (.aload_n 0, 1) := by decide +kernel
theorem dX11_readText_16 : decode cX11_readText 16 = .ok (.iconst 0, 1) := by decide +kernel
theorem dX11_readText_17 : decode cX11_readText 17 = .ok (.putfield 117, 3) := by decide +kernel
theorem dX11_readText_20 : decode cX11_readText 20 = .ok (.iconst 0, 1) := by decide +kernel
theorem dX11_readText_21 : decode cX11_readText 21 = .ok (.istore_n 1, 1) := by decide +kernel
theorem dX11_readText_22 : decode cX11_readText 22 = .ok (.iload_n 1, 1) := by decide +kernel
theorem dX11_readText_23 : decode cX11_readText 23 = .ok (.aload_n 0, 1) := by decide +kernel
theorem dX11_readText_24 : decode cX11_readText 24 = .ok (.getfield 81, 3) := by decide +kernel
theorem dX11_readText_27 : decode cX11_readText 27 = .ok (.if_icmp .ge 24, 3) := by decide +kernel
theorem dX11_readText_30 : decode cX11_readText 30 = .ok (.aload_n 0, 1) := by decide +kernel
theorem dX11_readText_31 : decode cX11_readText 31 = .ok (.aload_n 0, 1) := by decide +kernel
theorem dX11_readText_32 : decode cX11_readText 32 = .ok (.getfield 19, 3) := by decide +kernel
theorem dX11_readText_35 : decode cX11_readText 35 = .ok (.iload_n 1, 1) := by decide +kernel
theorem dX11_readText_36 : decode cX11_readText 36 = .ok (.caload, 1) := by decide +kernel
theorem dX11_readText_37 : decode cX11_readText 37 = .ok (.invokevirtual 137, 3) := by decide +kernel
theorem dX11_readText_40 : decode cX11_readText 40 = .ok (.ifCond .ne 5, 3) := by decide +kernel
theorem dX11_readText_43 : decode cX11_readText 43 = .ok (.iload_n 1, 1) := by decide +kernel
theorem dX11_readText_44 : decode cX11_readText 44 = .ok (.ireturn, 1) := by decide +kernel
theorem dX11_readText_45 : decode cX11_readText 45 = .ok (.iinc 1 1, 3) := by decide +kernel
theorem dX11_readText_48 : decode cX11_readText 48 = .ok (.goto (-26), 3) := by decide +kernel
theorem dX11_readText_51 : decode cX11_readText 51 = .ok (.aload_n 0, 1) := by decide +kernel
theorem dX11_readText_52 : decode cX11_readText 52 = .ok (.getfield 108, 3) := by decide +kernel
theorem dX11_readText_55 : decode cX11_readText 55 = .ok (.ifCond .eq 18, 3) := by decide +kernel
theorem dX11_readText_58 : decode cX11_readText 58 = .ok (.aload_n 0, 1) := by decide +kernel
theorem dX11_readText_59 : decode cX11_readText 59 = .ok (.getfield 108, 3) := by decide +kernel
theorem dX11_readText_62 : decode cX11_readText 62 = .ok (.iconst 3, 1) := by decide +kernel
theorem dX11_readText_63 : decode cX11_readText 63 = .ok (.if_icmp .gt 10, 3) := by decide +kernel
theorem dX11_readText_66 : decode cX11_readText 66 = .ok (.aload_n 0, 1) := by decide +kernel
theorem dX11_readText_67 : decode cX11_readText 67 = .ok (.getfield 117, 3) := by decide +kernel
theorem dX11_readText_70 : decode cX11_readText 70 = .ok (.ifCond .le 8, 3) := by decide +kernel
theorem dX11_readText_73 : decode cX11_readText 73 = .ok (.aload_n 0, 1) := by decide +kernel
theorem dX11_readText_74 : decode cX11_readText 74 = .ok (.getfield 81, 3) := by decide +kernel
theorem dX11_readText_77 : decode cX11_readText 77 = .ok (.ireturn, 1) := by decide +kernel
theorem dX11_readText_78 : decode cX11_readText 78 = .ok (.aload_n 0, 1) := by decide +kernel
theorem dX11_readText_79 : decode cX11_readText 79 = .ok (.invokevirtual 131, 3) := by decide +kernel
theorem dX11_readText_82 : decode cX11_readText 82 = .ok (.aload_n 0, 1) := by decide +kernel
theorem dX11_readText_83 : decode cX11_readText 83 = .ok (.iconst 1, 1) := by decide +kernel
theorem dX11_readText_84 : decode cX11_readText 84 = .ok (.invokevirtual 123, 3) := by decide +kernel
theorem dX11_readText_87 : decode cX11_readText 87 = .ok (.iconst (-1), 1) := by decide +kernel
theorem dX11_readText_88 : decode cX11_readText 88 = .ok (.ireturn, 1) := by decide +kernel
set_option maxRecDepth 20000 in
theorem ggX11_textError_X11_readText : GoodIn wsX11_textError wsX11_readText := goodIn_r _ [5, 6, 7, 8, 9, 10, 11, 12, 13, 14, 4, 15, 16, 17, 18, 19, 20, 21, 22, 23, 24, 25, 26, 27, 28, 29, 30, 31, 32, 33, 34, 35, 36, 37, 38, 39, 40, 41, 42, 43, 44, 45, 46, 47, 48, 49, 50, 51, 52, 53, 54, 55, 56, 57, 58, 59, 60, 61, 67, 68, 69, 70, 71, 72, 73, 74, 75, 76, 77, 78, 79, 80, 81, 82, 83, 84, 85, 86, 87, 88, 89, 90, 91, 92] (by decide +kernel) (by decide +kernel)
set_option maxRecDepth 20000 in
theorem gX11_textError_X11_readText : GoodIn wsX11_textError (wsV RX11 140 RX11 yX11_readText wsX11_readText) := goodIn_app (goodIn_of _ (by decide +kernel)) ggX11_textError_X11_readText
set_option maxRecDepth 20000 in
theorem ggX11_textError_X11_says : GoodIn wsX11_textError wsX11_says := goodIn_r _ [65, 66, 67, 68, 69, 70, 71, 72, 73, 74, 75, 76, 77, 78, 79, 80, 81, 82, 83, 84, 85, 86, 87, 88, 89, 90, 91, 92] (by decide +kernel) (by decide +kernel)
set_option maxRecDepth 20000 in
theorem gX11_textError_X11_says : GoodIn wsX11_textError (wsV RX11 74 RX11 yX11_says wsX11_says) := goodIn_app (goodIn_of _ (by decide +kernel)) ggX11_textError_X11_says
theorem dX11_textError_0 : decode cX11_textError 0 = .ok (.aload_n 0, 1) := by decide +kernel
theorem dX11_textError_1 : decode cX11_textError 1 = .ok (.aload_n 0, 1) := by decide +kernel
theorem dX11_textError_2 : decode cX11_textError 2 = .ok (.invokevirtual 140, 3) := by decide +kernel
theorem dX11_textError_5 : decode cX11_textError 5 = .ok (.invokevirtual 74, 3) := by decide +kernel
theorem dX11_textError_8 : decode cX11_textError 8 = .ok (.ireturn, 1) := by decide +kernel
theorem dX11_least_0 : decode cX11_least 0 = .ok (.iconst 0, 1) := by decide +kernel
theorem dX11_least_1 : decode cX11_least 1 = .ok (.istore_n 1, 1) := by decide +kernel
theorem dX11_least_2 : decode cX11_least 2 = .ok (.iconst 0, 1) := by decide +kernel
theorem dX11_least_3 : decode cX11_least 3 = .ok (.istore_n 2, 1) := by decide +kernel
theorem dX11_least_4 : decode cX11_least 4 = .ok (.iload_n 2, 1) := by decide +kernel
theorem dX11_least_5 : decode cX11_least 5 = .ok (.aload_n 0, 1) := by decide +kernel
theorem dX11_least_6 : decode cX11_least 6 = .ok (.getfield 84, 3) := by decide +kernel
theorem dX11_least_9 : decode cX11_least 9 = .ok (.if_icmp .ge 43, 3) := by decide +kernel
theorem dX11_least_12 : decode cX11_least 12 = .ok (.aload_n 0, 1) := by decide +kernel
theorem dX11_least_13 : decode cX11_least 13 = .ok (.getfield 23, 3) := by decide +kernel
theorem dX11_least_16 : decode cX11_least 16 = .ok (.iload_n 2, 1) := by decide +kernel
theorem dX11_least_17 : decode cX11_least 17 = .ok (.iaload, 1) := by decide +kernel
theorem dX11_least_18 : decode cX11_least 18 = .ok (.bipush 8, 2) := by decide +kernel
theorem dX11_least_20 : decode cX11_least 20 = .ok (.if_icmp .ne 24, 3) := by decide +kernel
theorem dX11_least_23 : decode cX11_least 23 = .ok (.aload_n 0, 1) := by decide +kernel
theorem dX11_least_24 : decode cX11_least 24 = .ok (.getfield 26, 3) := by decide +kernel
theorem dX11_least_27 : decode cX11_least 27 = .ok (.iload_n 2, 1) := by decide +kernel
theorem dX11_least_28 : decode cX11_least 28 = .ok (.iaload, 1) := by decide +kernel
theorem dX11_least_29 : decode cX11_least 29 = .ok (.iload_n 1, 1) := by decide +kernel
theorem dX11_least_30 : decode cX11_least 30 = .ok (.if_icmp .lt 14, 3) := by decide +kernel
theorem dX11_least_33 : decode cX11_least 33 = .ok (.aload_n 0, 1) := by decide +kernel
theorem dX11_least_34 : decode cX11_least 34 = .ok (.getfield 26, 3) := by decide +kernel
theorem dX11_least_37 : decode cX11_least 37 = .ok (.iload_n 2, 1) := by decide +kernel
theorem dX11_least_38 : decode cX11_least 38 = .ok (.iaload, 1) := by decide +kernel
theorem dX11_least_39 : decode cX11_least 39 = .ok (.iconst 1, 1) := by decide +kernel
theorem dX11_least_40 : decode cX11_least 40 = .ok (.iadd, 1) := by decide +kernel
theorem dX11_least_41 : decode cX11_least 41 = .ok (.goto 4, 3) := by decide +kernel
theorem dX11_least_44 : decode cX11_least 44 = .ok (.iload_n 1, 1) := by decide +kernel
theorem dX11_least_45 : decode cX11_least 45 = .ok (.istore_n 1, 1) := by decide +kernel
theorem dX11_least_46 : decode cX11_least 46 = .ok (.iinc 2 1, 3) := by decide +kernel
theorem dX11_least_49 : decode cX11_least 49 = .ok (.goto (-45), 3) := by decide +kernel
theorem dX11_least_52 : decode cX11_least 52 = .ok (.iload_n 1, 1) := by decide +kernel
theorem dX11_least_53 : decode cX11_least 53 = .ok (.ireturn, 1) := by decide +kernel
set_option maxRecDepth 20000 in
theorem ggX11_leastToDefine_X11_readText : GoodIn wsX11_leastToDefine wsX11_readText := goodIn_r _ [5, 6, 7, 8, 9, 10, 11, 12, 13, 14, 4, 15, 16, 17, 18, 19, 20, 21, 22, 23, 24, 25, 26, 27, 28, 29, 30, 31, 32, 33, 34, 35, 36, 37, 38, 39, 40, 41, 42, 43, 44, 45, 46, 47, 48, 49, 50, 51, 52, 53, 54, 55, 56, 57, 58, 59, 60, 61, 71, 72, 73, 74, 75, 76, 77, 78, 79, 80, 81, 82, 83, 84, 85, 86, 87, 88, 89, 90, 91, 92, 93, 94, 95, 96] (by decide +kernel) (by decide +kernel)
set_option maxRecDepth 20000 in
theorem gX11_leastToDefine_X11_readText : GoodIn wsX11_leastToDefine (wsV RX11 140 RX11 yX11_readText wsX11_readText) := goodIn_app (goodIn_of _ (by decide +kernel)) ggX11_leastToDefine_X11_readText
set_option maxRecDepth 20000 in
theorem ggX11_leastToDefine_X11_asks : GoodIn wsX11_leastToDefine wsX11_asks := goodIn_r _ [65, 66, 71, 72, 73, 74, 75, 76, 77, 78, 79, 80, 81, 82, 83, 84, 85, 86, 87, 88, 89, 90, 91, 92, 93, 94, 95, 96] (by decide +kernel) (by decide +kernel)
set_option maxRecDepth 20000 in
theorem gX11_leastToDefine_X11_asks : GoodIn wsX11_leastToDefine (wsV RX11 66 RX11 yX11_asks wsX11_asks) := goodIn_app (goodIn_of _ (by decide +kernel)) ggX11_leastToDefine_X11_asks
set_option maxRecDepth 20000 in
theorem ggX11_leastToDefine_X11_least : GoodIn wsX11_leastToDefine wsX11_least := goodIn_r _ [70, 6, 28, 29, 71, 72, 73, 74, 75, 76, 77, 78, 79, 80, 81, 82, 83, 84, 85, 86, 87, 88, 89, 90, 91, 92, 93, 94, 95, 96] (by decide +kernel) (by decide +kernel)
set_option maxRecDepth 20000 in
theorem gX11_leastToDefine_X11_least : GoodIn wsX11_leastToDefine (wsV RX11 143 RX11 yX11_least wsX11_least) := goodIn_app (goodIn_of _ (by decide +kernel)) ggX11_leastToDefine_X11_least
theorem dX11_leastToDefine_0 : decode cX11_leastToDefine 0 = .ok (.aload_n 0, 1) := by decide +kernel
theorem dX11_leastToDefine_1 : decode cX11_leastToDefine 1 = .ok (.aload_n 0, 1) := by decide +kernel
theorem dX11_leastToDefine_2 : decode cX11_leastToDefine 2 = .ok (.invokevirtual 140, 3) := by decide +kernel
theorem dX11_leastToDefine_5 : decode cX11_leastToDefine 5 = .ok (.iconst (-1), 1) := by decide +kernel
theorem dX11_leastToDefine_6 : decode cX11_leastToDefine 6 = .ok (.if_icmp .ne 7, 3) := by decide +kernel
theorem dX11_leastToDefine_9 : decode cX11_leastToDefine 9 = .ok (.iconst 1, 1) := by decide +kernel
theorem dX11_leastToDefine_10 : decode cX11_leastToDefine 10 = .ok (.goto 4, 3) := by decide +kernel
theorem dX11_leastToDefine_13 : decode cX11_leastToDefine 13 = .ok (.iconst 0, 1) := by decide +kernel
theorem dX11_leastToDefine_14 : decode cX11_leastToDefine 14 = .ok (.invokevirtual 66, 3) := by decide +kernel
theorem dX11_leastToDefine_17 : decode cX11_leastToDefine 17 = .ok (.ifCond .ne 5, 3) := by decide +kernel
theorem dX11_leastToDefine_20 : decode cX11_leastToDefine 20 = .ok (.iconst 0, 1) := by decide +kernel
theorem dX11_leastToDefine_21 : decode cX11_leastToDefine 21 = .ok (.ireturn, 1) := by decide +kernel
theorem dX11_leastToDefine_22 : decode cX11_leastToDefine 22 = .ok (.aload_n 0, 1) := by decide +kernel
theorem dX11_leastToDefine_23 : decode cX11_leastToDefine 23 = .ok (.invokevirtual 143, 3) := by decide +kernel
theorem dX11_leastToDefine_26 : decode cX11_leastToDefine 26 = .ok (.iconst 4, 1) := by decide +kernel
theorem dX11_leastToDefine_27 : decode cX11_leastToDefine 27 = .ok (.if_icmp .ge 10, 3) := by decide +kernel
theorem dX11_leastToDefine_30 : decode cX11_leastToDefine 30 = .ok (.aload_n 0, 1) := by decide +kernel
theorem dX11_leastToDefine_31 : decode cX11_leastToDefine 31 = .ok (.invokevirtual 143, 3) := by decide +kernel
theorem dX11_leastToDefine_34 : decode cX11_leastToDefine 34 = .ok (.goto 4, 3) := by decide +kernel
theorem dX11_leastToDefine_37 : decode cX11_leastToDefine 37 = .ok (.iconst (-1), 1) := by decide +kernel
theorem dX11_leastToDefine_38 : decode cX11_leastToDefine 38 = .ok (.ireturn, 1) := by decide +kernel
set_option maxRecDepth 20000 in
theorem ggX11_isFunction_X11_in : GoodIn wsX11_isFunction wsX11_in := goodIn_r _ [4] (by decide +kernel) (by decide +kernel)
set_option maxRecDepth 20000 in
theorem gX11_isFunction_X11_in : GoodIn wsX11_isFunction (va_wsS RX11 101 yX11_in wsX11_in) := goodIn_app (goodIn_of _ (by decide +kernel)) ggX11_isFunction_X11_in
theorem dX11_isFunction_0 : decode cX11_isFunction 0 = .ok (.iload_n 0, 1) := by decide +kernel
theorem dX11_isFunction_1 : decode cX11_isFunction 1 = .ok (.iconst 0, 1) := by decide +kernel
theorem dX11_isFunction_2 : decode cX11_isFunction 2 = .ok (.iconst 3, 1) := by decide +kernel
theorem dX11_isFunction_3 : decode cX11_isFunction 3 = .ok (.invokestatic 101, 3) := by decide +kernel
theorem dX11_isFunction_6 : decode cX11_isFunction 6 = .ok (.ireturn, 1) := by decide +kernel
theorem dX11_gets_0 : decode cX11_gets 0 = .ok (.aload_n 0, 1) := by decide +kernel
theorem dX11_gets_1 : decode cX11_gets 1 = .ok (.getfield 7, 3) := by decide +kernel
theorem dX11_gets_4 : decode cX11_gets 4 = .ok (.iconst 1, 1) := by decide +kernel
theorem dX11_gets_5 : decode cX11_gets 5 = .ok (.bipush 81, 2) := by decide +kernel
theorem dX11_gets_7 : decode cX11_gets 7 = .ok (.iload_n 1, 1) := by decide +kernel
theorem dX11_gets_8 : decode cX11_gets 8 = .ok (.imul, 1) := by decide +kernel
theorem dX11_gets_9 : decode cX11_gets 9 = .ok (.iadd, 1) := by decide +kernel
theorem dX11_gets_10 : decode cX11_gets 10 = .ok (.aload_n 0, 1) := by decide +kernel
theorem dX11_gets_11 : decode cX11_gets 11 = .ok (.getfield 84, 3) := by decide +kernel
theorem dX11_gets_14 : decode cX11_gets 14 = .ok (.iastore, 1) := by decide +kernel
theorem dX11_gets_15 : decode cX11_gets 15 = .ok (.iconst 0, 1) := by decide +kernel
theorem dX11_gets_16 : decode cX11_gets 16 = .ok (.istore_n 2, 1) := by decide +kernel
theorem dX11_gets_17 : decode cX11_gets 17 = .ok (.iload_n 2, 1) := by decide +kernel
theorem dX11_gets_18 : decode cX11_gets 18 = .ok (.bipush 40, 2) := by decide +kernel
theorem dX11_gets_20 : decode cX11_gets 20 = .ok (.if_icmp .ge 75, 3) := by decide +kernel
theorem dX11_gets_23 : decode cX11_gets 23 = .ok (.aload_n 0, 1) := by decide +kernel
theorem dX11_gets_24 : decode cX11_gets 24 = .ok (.getfield 7, 3) := by decide +kernel
theorem dX11_gets_27 : decode cX11_gets 27 = .ok (.iconst 2, 1) := by decide +kernel
theorem dX11_gets_28 : decode cX11_gets 28 = .ok (.bipush 81, 2) := by decide +kernel
theorem dX11_gets_30 : decode cX11_gets 30 = .ok (.iload_n 1, 1) := by decide +kernel
theorem dX11_gets_31 : decode cX11_gets 31 = .ok (.imul, 1) := by decide +kernel
theorem dX11_gets_32 : decode cX11_gets 32 = .ok (.iadd, 1) := by decide +kernel
theorem dX11_gets_33 : decode cX11_gets 33 = .ok (.iconst 2, 1) := by decide +kernel
theorem dX11_gets_34 : decode cX11_gets 34 = .ok (.iload_n 2, 1) := by decide +kernel
theorem dX11_gets_35 : decode cX11_gets 35 = .ok (.imul, 1) := by decide +kernel
theorem dX11_gets_36 : decode cX11_gets 36 = .ok (.iadd, 1) := by decide +kernel
theorem dX11_gets_37 : decode cX11_gets 37 = .ok (.iload_n 2, 1) := by decide +kernel
theorem dX11_gets_38 : decode cX11_gets 38 = .ok (.aload_n 0, 1) := by decide +kernel
theorem dX11_gets_39 : decode cX11_gets 39 = .ok (.getfield 84, 3) := by decide +kernel
theorem dX11_gets_42 : decode cX11_gets 42 = .ok (.if_icmp .ge 12, 3) := by decide +kernel
theorem dX11_gets_45 : decode cX11_gets 45 = .ok (.aload_n 0, 1) := by decide +kernel
theorem dX11_gets_46 : decode cX11_gets 46 = .ok (.getfield 23, 3) := by decide +kernel
theorem dX11_gets_49 : decode cX11_gets 49 = .ok (.iload_n 2, 1) := by decide +kernel
theorem dX11_gets_50 : decode cX11_gets 50 = .ok (.iaload, 1) := by decide +kernel
theorem dX11_gets_51 : decode cX11_gets 51 = .ok (.goto 4, 3) := by decide +kernel
theorem dX11_gets_54 : decode cX11_gets 54 = .ok (.iconst 0, 1) := by decide +kernel
theorem dX11_gets_55 : decode cX11_gets 55 = .ok (.iastore, 1) := by decide +kernel
theorem dX11_gets_56 : decode cX11_gets 56 = .ok (.aload_n 0, 1) := by decide +kernel
theorem dX11_gets_57 : decode cX11_gets 57 = .ok (.getfield 7, 3) := by decide +kernel
theorem dX11_gets_60 : decode cX11_gets 60 = .ok (.iconst 3, 1) := by decide +kernel
theorem dX11_gets_61 : decode cX11_gets 61 = .ok (.bipush 81, 2) := by decide +kernel
theorem dX11_gets_63 : decode cX11_gets 63 = .ok (.iload_n 1, 1) := by decide +kernel
theorem dX11_gets_64 : decode cX11_gets 64 = .ok (.imul, 1) := by decide +kernel
theorem dX11_gets_65 : decode cX11_gets 65 = .ok (.iadd, 1) := by decide +kernel
theorem dX11_gets_66 : decode cX11_gets 66 = .ok (.iconst 2, 1) := by decide +kernel
theorem dX11_gets_67 : decode cX11_gets 67 = .ok (.iload_n 2, 1) := by decide +kernel
theorem dX11_gets_68 : decode cX11_gets 68 = .ok (.imul, 1) := by decide +kernel
theorem dX11_gets_69 : decode cX11_gets 69 = .ok (.iadd, 1) := by decide +kernel
theorem dX11_gets_70 : decode cX11_gets 70 = .ok (.iload_n 2, 1) := by decide +kernel
theorem dX11_gets_71 : decode cX11_gets 71 = .ok (.aload_n 0, 1) := by decide +kernel
theorem dX11_gets_72 : decode cX11_gets 72 = .ok (.getfield 84, 3) := by decide +kernel
theorem dX11_gets_75 : decode cX11_gets 75 = .ok (.if_icmp .ge 12, 3) := by decide +kernel
theorem dX11_gets_78 : decode cX11_gets 78 = .ok (.aload_n 0, 1) := by decide +kernel
theorem dX11_gets_79 : decode cX11_gets 79 = .ok (.getfield 26, 3) := by decide +kernel
theorem dX11_gets_82 : decode cX11_gets 82 = .ok (.iload_n 2, 1) := by decide +kernel
theorem dX11_gets_83 : decode cX11_gets 83 = .ok (.iaload, 1) := by decide +kernel
theorem dX11_gets_84 : decode cX11_gets 84 = .ok (.goto 4, 3) := by decide +kernel
theorem dX11_gets_87 : decode cX11_gets 87 = .ok (.iconst 0, 1) := by decide +kernel
theorem dX11_gets_88 : decode cX11_gets 88 = .ok (.iastore, 1) := by decide +kernel
theorem dX11_gets_89 : decode cX11_gets 89 = .ok (.iinc 2 1, 3) := by decide +kernel
theorem dX11_gets_92 : decode cX11_gets 92 = .ok (.goto (-75), 3) := by decide +kernel
theorem dX11_gets_95 : decode cX11_gets 95 = .ok (.aload_n 0, 1) := by decide +kernel
theorem dX11_gets_96 : decode cX11_gets 96 = .ok (.getfield 84, 3) := by decide +kernel
theorem dX11_gets_99 : decode cX11_gets 99 = .ok (.ireturn, 1) := by decide +kernel
set_option maxRecDepth 20000 in
theorem ggX11_define_X11_isFunction : GoodIn wsX11_define wsX11_isFunction := goodIn_r _ [5, 6, 7, 4, 8] (by decide +kernel) (by decide +kernel)
set_option maxRecDepth 20000 in
theorem gX11_define_X11_isFunction : GoodIn wsX11_define (va_wsS RX11 146 yX11_isFunction wsX11_isFunction) := goodIn_app (goodIn_of _ (by decide +kernel)) ggX11_define_X11_isFunction
set_option maxRecDepth 20000 in
theorem ggX11_define_X11_asks : GoodIn wsX11_define wsX11_asks := goodIn_r _ [12, 1, 89, 90, 91, 92, 93, 94, 95, 96, 97, 98, 99, 100, 101, 102, 103, 104, 105, 106, 107, 108, 109, 110, 111, 112, 113, 114] (by decide +kernel) (by decide +kernel)
set_option maxRecDepth 20000 in
theorem gX11_define_X11_asks : GoodIn wsX11_define (wsV RX11 66 RX11 yX11_asks wsX11_asks) := goodIn_app (goodIn_of _ (by decide +kernel)) ggX11_define_X11_asks
set_option maxRecDepth 20000 in
theorem ggX11_define_X11_readText : GoodIn wsX11_define wsX11_readText := goodIn_r _ [16, 17, 18, 19, 20, 21, 22, 23, 24, 25, 4, 26, 27, 28, 29, 30, 31, 6, 7, 8, 32, 33, 34, 35, 36, 37, 38, 39, 40, 41, 42, 43, 44, 45, 46, 47, 48, 49, 50, 51, 52, 53, 54, 55, 56, 57, 58, 59, 60, 61, 62, 63, 64, 65, 66, 67, 68, 69, 89, 90, 91, 92, 93, 94, 95, 96, 97, 98, 99, 100, 101, 102, 103, 104, 105, 106, 107, 108, 109, 110, 111, 112, 113, 114] (by decide +kernel) (by decide +kernel)
set_option maxRecDepth 20000 in
theorem gX11_define_X11_readText : GoodIn wsX11_define (wsV RX11 140 RX11 yX11_readText wsX11_readText) := goodIn_app (goodIn_of _ (by decide +kernel)) ggX11_define_X11_readText
set_option maxRecDepth 20000 in
theorem ggX11_define_X11_least : GoodIn wsX11_define wsX11_least := goodIn_r _ [73, 17, 36, 37, 89, 90, 91, 92, 93, 94, 95, 96, 97, 98, 99, 100, 101, 102, 103, 104, 105, 106, 107, 108, 109, 110, 111, 112, 113, 114] (by decide +kernel) (by decide +kernel)
set_option maxRecDepth 20000 in
theorem gX11_define_X11_least : GoodIn wsX11_define (wsV RX11 143 RX11 yX11_least wsX11_least) := goodIn_app (goodIn_of _ (by decide +kernel)) ggX11_define_X11_least
set_option maxRecDepth 20000 in
theorem ggX11_define_X11_asksThen : GoodIn wsX11_define wsX11_asksThen := goodIn_r _ [77, 1, 89, 90, 91, 92, 93, 94, 95, 96, 97, 98, 99, 100, 101, 102, 103, 104, 105, 106, 107, 108, 109, 110, 111, 112, 113, 114] (by decide +kernel) (by decide +kernel)
set_option maxRecDepth 20000 in
theorem gX11_define_X11_asksThen : GoodIn wsX11_define (wsV RX11 149 RX11 yX11_asksThen wsX11_asksThen) := goodIn_app (goodIn_of _ (by decide +kernel)) ggX11_define_X11_asksThen
set_option maxRecDepth 20000 in
theorem ggX11_define_X11_record : GoodIn wsX11_define wsX11_record := goodIn_r _ [81, 82, 83, 84, 89, 90, 91, 92, 93, 94, 95, 96, 97, 98, 99, 100, 101, 102, 103, 104, 105, 106, 107, 108, 109, 110, 111, 112, 113, 114] (by decide +kernel) (by decide +kernel)
set_option maxRecDepth 20000 in
theorem gX11_define_X11_record : GoodIn wsX11_define (wsV RX11 78 RX11 yX11_record wsX11_record) := goodIn_app (goodIn_of _ (by decide +kernel)) ggX11_define_X11_record
set_option maxRecDepth 20000 in
theorem ggX11_define_X11_gets : GoodIn wsX11_define wsX11_gets := goodIn_r _ [88, 84, 17, 36, 37, 89, 90, 91, 92, 93, 94, 95, 96, 97, 98, 99, 100, 101, 102, 103, 104, 105, 106, 107, 108, 109, 110, 111, 112, 113, 114] (by decide +kernel) (by decide +kernel)
set_option maxRecDepth 20000 in
theorem gX11_define_X11_gets : GoodIn wsX11_define (wsV RX11 153 RX11 yX11_gets wsX11_gets) := goodIn_app (goodIn_of _ (by decide +kernel)) ggX11_define_X11_gets
theorem dX11_define_0 : decode cX11_define 0 = .ok (.aload_n 0, 1) := by decide +kernel
theorem dX11_define_1 : decode cX11_define 1 = .ok (.iload_n 1, 1) := by decide +kernel
theorem dX11_define_2 : decode cX11_define 2 = .ok (.invokestatic 146, 3) := by decide +kernel
theorem dX11_define_5 : decode cX11_define 5 = .ok (.invokevirtual 66, 3) := by decide +kernel
theorem dX11_define_8 : decode cX11_define 8 = .ok (.pop, 1) := by decide +kernel
theorem dX11_define_9 : decode cX11_define 9 = .ok (.aload_n 0, 1) := by decide +kernel
theorem dX11_define_10 : decode cX11_define 10 = .ok (.aload_n 0, 1) := by decide +kernel
theorem dX11_define_11 : decode cX11_define 11 = .ok (.getfield 59, 3) := by decide +kernel
theorem dX11_define_14 : decode cX11_define 14 = .ok (.ifCond .gt 19, 3) := by decide +kernel
theorem dX11_define_17 : decode cX11_define 17 = .ok (.aload_n 0, 1) := by decide +kernel
theorem dX11_define_18 : decode cX11_define 18 = .ok (.invokevirtual 140, 3) := by decide +kernel
theorem dX11_define_21 : decode cX11_define 21 = .ok (.iconst (-1), 1) := by decide +kernel
theorem dX11_define_22 : decode cX11_define 22 = .ok (.if_icmp .ne 15, 3) := by decide +kernel
theorem dX11_define_25 : decode cX11_define 25 = .ok (.aload_n 0, 1) := by decide +kernel
theorem dX11_define_26 : decode cX11_define 26 = .ok (.invokevirtual 143, 3) := by decide +kernel
theorem dX11_define_29 : decode cX11_define 29 = .ok (.iload_n 1, 1) := by decide +kernel
theorem dX11_define_30 : decode cX11_define 30 = .ok (.if_icmp .gt 7, 3) := by decide +kernel
theorem dX11_define_33 : decode cX11_define 33 = .ok (.iconst 1, 1) := by decide +kernel
theorem dX11_define_34 : decode cX11_define 34 = .ok (.goto 4, 3) := by decide +kernel
theorem dX11_define_37 : decode cX11_define 37 = .ok (.iconst 0, 1) := by decide +kernel
theorem dX11_define_38 : decode cX11_define 38 = .ok (.iconst 2, 1) := by decide +kernel
theorem dX11_define_39 : decode cX11_define 39 = .ok (.invokevirtual 149, 3) := by decide +kernel
theorem dX11_define_42 : decode cX11_define 42 = .ok (.ifCond .ne 5, 3) := by decide +kernel
theorem dX11_define_45 : decode cX11_define 45 = .ok (.iconst 0, 1) := by decide +kernel
theorem dX11_define_46 : decode cX11_define 46 = .ok (.ireturn, 1) := by decide +kernel
theorem dX11_define_47 : decode cX11_define 47 = .ok (.aload_n 0, 1) := by decide +kernel
theorem dX11_define_48 : decode cX11_define 48 = .ok (.invokevirtual 78, 3) := by decide +kernel
theorem dX11_define_51 : decode cX11_define 51 = .ok (.aload_n 0, 1) := by decide +kernel
theorem dX11_define_52 : decode cX11_define 52 = .ok (.iload_n 1, 1) := by decide +kernel
theorem dX11_define_53 : decode cX11_define 53 = .ok (.invokevirtual 153, 3) := by decide +kernel
theorem dX11_define_56 : decode cX11_define 56 = .ok (.ireturn, 1) := by decide +kernel
set_option maxRecDepth 20000 in
theorem ggX11_takes_X11_size : GoodIn wsX11_takes wsX11_size := goodIn_r _ [8, 9, 18, 19, 20, 21, 22, 23, 24, 25, 26, 27, 28, 29, 30, 31, 32, 33, 34, 35, 36, 37, 38, 39, 40, 41, 42, 43] (by decide +kernel) (by decide +kernel)
set_option maxRecDepth 20000 in
theorem gX11_takes_X11_size : GoodIn wsX11_takes (wsV RX11 156 RX11 yX11_size wsX11_size) := goodIn_app (goodIn_of _ (by decide +kernel)) ggX11_takes_X11_size
set_option maxRecDepth 20000 in
theorem ggX11_takes_X11_kind : GoodIn wsX11_takes wsX11_kind := goodIn_r _ [13, 9, 18, 19, 20, 21, 22, 23, 24, 25, 26, 27, 28, 29, 30, 31, 32, 33, 34, 35, 36, 37, 38, 39, 40, 41, 42, 43] (by decide +kernel) (by decide +kernel)
set_option maxRecDepth 20000 in
theorem gX11_takes_X11_kind : GoodIn wsX11_takes (wsV RX11 159 RX11 yX11_kind wsX11_kind) := goodIn_app (goodIn_of _ (by decide +kernel)) ggX11_takes_X11_kind
set_option maxRecDepth 20000 in
theorem ggX11_takes_X11_number : GoodIn wsX11_takes wsX11_number := goodIn_r _ [17, 9, 18, 19, 20, 21, 22, 23, 24, 25, 26, 27, 28, 29, 30, 31, 32, 33, 34, 35, 36, 37, 38, 39, 40, 41, 42, 43] (by decide +kernel) (by decide +kernel)
set_option maxRecDepth 20000 in
theorem gX11_takes_X11_number : GoodIn wsX11_takes (wsV RX11 163 RX11 yX11_number wsX11_number) := goodIn_app (goodIn_of _ (by decide +kernel)) ggX11_takes_X11_number
theorem dX11_takes_0 : decode cX11_takes 0 = .ok (.aload_n 0, 1) := by decide +kernel
theorem dX11_takes_1 : decode cX11_takes 1 = .ok (.aload_n 0, 1) := by decide +kernel
theorem dX11_takes_2 : decode cX11_takes 2 = .ok (.iload_n 1, 1) := by decide +kernel
theorem dX11_takes_3 : decode cX11_takes 3 = .ok (.invokevirtual 156, 3) := by decide +kernel
theorem dX11_takes_6 : decode cX11_takes 6 = .ok (.putfield 84, 3) := by decide +kernel
theorem dX11_takes_9 : decode cX11_takes 9 = .ok (.iconst 0, 1) := by decide +kernel
theorem dX11_takes_10 : decode cX11_takes 10 = .ok (.istore_n 2, 1) := by decide +kernel
theorem dX11_takes_11 : decode cX11_takes 11 = .ok (.iload_n 2, 1) := by decide +kernel
theorem dX11_takes_12 : decode cX11_takes 12 = .ok (.aload_n 0, 1) := by decide +kernel
theorem dX11_takes_13 : decode cX11_takes 13 = .ok (.getfield 84, 3) := by decide +kernel
theorem dX11_takes_16 : decode cX11_takes 16 = .ok (.if_icmp .ge 33, 3) := by decide +kernel
theorem dX11_takes_19 : decode cX11_takes 19 = .ok (.aload_n 0, 1) := by decide +kernel
theorem dX11_takes_20 : decode cX11_takes 20 = .ok (.getfield 23, 3) := by decide +kernel
theorem dX11_takes_23 : decode cX11_takes 23 = .ok (.iload_n 2, 1) := by decide +kernel
theorem dX11_takes_24 : decode cX11_takes 24 = .ok (.aload_n 0, 1) := by decide +kernel
theorem dX11_takes_25 : decode cX11_takes 25 = .ok (.iload_n 1, 1) := by decide +kernel
theorem dX11_takes_26 : decode cX11_takes 26 = .ok (.iload_n 2, 1) := by decide +kernel
theorem dX11_takes_27 : decode cX11_takes 27 = .ok (.invokevirtual 159, 3) := by decide +kernel
theorem dX11_takes_30 : decode cX11_takes 30 = .ok (.iastore, 1) := by decide +kernel
theorem dX11_takes_31 : decode cX11_takes 31 = .ok (.aload_n 0, 1) := by decide +kernel
theorem dX11_takes_32 : decode cX11_takes 32 = .ok (.getfield 26, 3) := by decide +kernel
theorem dX11_takes_35 : decode cX11_takes 35 = .ok (.iload_n 2, 1) := by decide +kernel
theorem dX11_takes_36 : decode cX11_takes 36 = .ok (.aload_n 0, 1) := by decide +kernel
theorem dX11_takes_37 : decode cX11_takes 37 = .ok (.iload_n 1, 1) := by decide +kernel
theorem dX11_takes_38 : decode cX11_takes 38 = .ok (.iload_n 2, 1) := by decide +kernel
theorem dX11_takes_39 : decode cX11_takes 39 = .ok (.invokevirtual 163, 3) := by decide +kernel
theorem dX11_takes_42 : decode cX11_takes 42 = .ok (.iastore, 1) := by decide +kernel
theorem dX11_takes_43 : decode cX11_takes 43 = .ok (.iinc 2 1, 3) := by decide +kernel
theorem dX11_takes_46 : decode cX11_takes 46 = .ok (.goto (-35), 3) := by decide +kernel
theorem dX11_takes_49 : decode cX11_takes 49 = .ok (.return_, 1) := by decide +kernel
set_option maxRecDepth 20000 in
theorem ggX11_copy_X11_isFunction : GoodIn wsX11_copy wsX11_isFunction := goodIn_r _ [4, 5, 6, 3, 7] (by decide +kernel) (by decide +kernel)
set_option maxRecDepth 20000 in
theorem gX11_copy_X11_isFunction : GoodIn wsX11_copy (va_wsS RX11 146 yX11_isFunction wsX11_isFunction) := goodIn_app (goodIn_of _ (by decide +kernel)) ggX11_copy_X11_isFunction
set_option maxRecDepth 20000 in
theorem ggX11_copy_X11_asks : GoodIn wsX11_copy wsX11_asks := goodIn_r _ [11, 12, 51, 52, 53, 54, 55, 56, 57, 58, 59, 60, 61, 62, 63, 64, 65, 66, 67, 68, 69, 70, 71, 72, 73, 74, 75, 76] (by decide +kernel) (by decide +kernel)
set_option maxRecDepth 20000 in
theorem gX11_copy_X11_asks : GoodIn wsX11_copy (wsV RX11 66 RX11 yX11_asks wsX11_asks) := goodIn_app (goodIn_of _ (by decide +kernel)) ggX11_copy_X11_asks
set_option maxRecDepth 20000 in
theorem ggX11_copy_X11_takes : GoodIn wsX11_copy wsX11_takes := goodIn_r _ [16, 17, 18, 19, 20, 21, 22, 3, 23, 24, 25, 26, 27, 28, 29, 30, 31, 32, 51, 52, 53, 54, 55, 56, 57, 58, 59, 60, 61, 62, 63, 64, 65, 66, 67, 68, 69, 70, 71, 72, 73, 74, 75, 76] (by decide +kernel) (by decide +kernel)
set_option maxRecDepth 20000 in
theorem gX11_copy_X11_takes : GoodIn wsX11_copy (wsV RX11 166 RX11 yX11_takes wsX11_takes) := goodIn_app (goodIn_of _ (by decide +kernel)) ggX11_copy_X11_takes
set_option maxRecDepth 20000 in
theorem ggX11_copy_X11_least : GoodIn wsX11_copy wsX11_least := goodIn_r _ [36, 17, 18, 19, 51, 52, 53, 54, 55, 56, 57, 58, 59, 60, 61, 62, 63, 64, 65, 66, 67, 68, 69, 70, 71, 72, 73, 74, 75, 76] (by decide +kernel) (by decide +kernel)
set_option maxRecDepth 20000 in
theorem gX11_copy_X11_least : GoodIn wsX11_copy (wsV RX11 143 RX11 yX11_least wsX11_least) := goodIn_app (goodIn_of _ (by decide +kernel)) ggX11_copy_X11_least
set_option maxRecDepth 20000 in
theorem ggX11_copy_X11_asksThen : GoodIn wsX11_copy wsX11_asksThen := goodIn_r _ [40, 12, 51, 52, 53, 54, 55, 56, 57, 58, 59, 60, 61, 62, 63, 64, 65, 66, 67, 68, 69, 70, 71, 72, 73, 74, 75, 76] (by decide +kernel) (by decide +kernel)
set_option maxRecDepth 20000 in
theorem gX11_copy_X11_asksThen : GoodIn wsX11_copy (wsV RX11 149 RX11 yX11_asksThen wsX11_asksThen) := goodIn_app (goodIn_of _ (by decide +kernel)) ggX11_copy_X11_asksThen
set_option maxRecDepth 20000 in
theorem ggX11_copy_X11_record : GoodIn wsX11_copy wsX11_record := goodIn_r _ [44, 45, 46, 24, 51, 52, 53, 54, 55, 56, 57, 58, 59, 60, 61, 62, 63, 64, 65, 66, 67, 68, 69, 70, 71, 72, 73, 74, 75, 76] (by decide +kernel) (by decide +kernel)
set_option maxRecDepth 20000 in
theorem gX11_copy_X11_record : GoodIn wsX11_copy (wsV RX11 78 RX11 yX11_record wsX11_record) := goodIn_app (goodIn_of _ (by decide +kernel)) ggX11_copy_X11_record
set_option maxRecDepth 20000 in
theorem ggX11_copy_X11_gets : GoodIn wsX11_copy wsX11_gets := goodIn_r _ [50, 24, 17, 18, 19, 51, 52, 53, 54, 55, 56, 57, 58, 59, 60, 61, 62, 63, 64, 65, 66, 67, 68, 69, 70, 71, 72, 73, 74, 75, 76] (by decide +kernel) (by decide +kernel)
set_option maxRecDepth 20000 in
theorem gX11_copy_X11_gets : GoodIn wsX11_copy (wsV RX11 153 RX11 yX11_gets wsX11_gets) := goodIn_app (goodIn_of _ (by decide +kernel)) ggX11_copy_X11_gets
theorem dX11_copy_0 : decode cX11_copy 0 = .ok (.aload_n 0, 1) := by decide +kernel
theorem dX11_copy_1 : decode cX11_copy 1 = .ok (.iload_n 1, 1) := by decide +kernel
theorem dX11_copy_2 : decode cX11_copy 2 = .ok (.invokestatic 146, 3) := by decide +kernel
theorem dX11_copy_5 : decode cX11_copy 5 = .ok (.ifCond .eq 14, 3) := by decide +kernel
theorem dX11_copy_8 : decode cX11_copy 8 = .ok (.iload_n 2, 1) := by decide +kernel
theorem dX11_copy_9 : decode cX11_copy 9 = .ok (.invokestatic 146, 3) := by decide +kernel
theorem dX11_copy_12 : decode cX11_copy 12 = .ok (.ifCond .eq 7, 3) := by decide +kernel
theorem dX11_copy_15 : decode cX11_copy 15 = .ok (.iconst 1, 1) := by decide +kernel
theorem dX11_copy_16 : decode cX11_copy 16 = .ok (.goto 4, 3) := by decide +kernel
theorem dX11_copy_19 : decode cX11_copy 19 = .ok (.iconst 0, 1) := by decide +kernel
theorem dX11_copy_20 : decode cX11_copy 20 = .ok (.invokevirtual 66, 3) := by decide +kernel
theorem dX11_copy_23 : decode cX11_copy 23 = .ok (.ifCond .ne 5, 3) := by decide +kernel
theorem dX11_copy_26 : decode cX11_copy 26 = .ok (.iconst 0, 1) := by decide +kernel
theorem dX11_copy_27 : decode cX11_copy 27 = .ok (.ireturn, 1) := by decide +kernel
theorem dX11_copy_28 : decode cX11_copy 28 = .ok (.aload_n 0, 1) := by decide +kernel
theorem dX11_copy_29 : decode cX11_copy 29 = .ok (.iload_n 2, 1) := by decide +kernel
theorem dX11_copy_30 : decode cX11_copy 30 = .ok (.invokevirtual 166, 3) := by decide +kernel
theorem dX11_copy_33 : decode cX11_copy 33 = .ok (.aload_n 0, 1) := by decide +kernel
theorem dX11_copy_34 : decode cX11_copy 34 = .ok (.aload_n 0, 1) := by decide +kernel
theorem dX11_copy_35 : decode cX11_copy 35 = .ok (.invokevirtual 143, 3) := by decide +kernel
theorem dX11_copy_38 : decode cX11_copy 38 = .ok (.iload_n 1, 1) := by decide +kernel
theorem dX11_copy_39 : decode cX11_copy 39 = .ok (.if_icmp .gt 7, 3) := by decide +kernel
theorem dX11_copy_42 : decode cX11_copy 42 = .ok (.iconst 1, 1) := by decide +kernel
theorem dX11_copy_43 : decode cX11_copy 43 = .ok (.goto 4, 3) := by decide +kernel
theorem dX11_copy_46 : decode cX11_copy 46 = .ok (.iconst 0, 1) := by decide +kernel
theorem dX11_copy_47 : decode cX11_copy 47 = .ok (.iconst 2, 1) := by decide +kernel
theorem dX11_copy_48 : decode cX11_copy 48 = .ok (.invokevirtual 149, 3) := by decide +kernel
theorem dX11_copy_51 : decode cX11_copy 51 = .ok (.ifCond .ne 5, 3) := by decide +kernel
theorem dX11_copy_54 : decode cX11_copy 54 = .ok (.iconst 0, 1) := by decide +kernel
theorem dX11_copy_55 : decode cX11_copy 55 = .ok (.ireturn, 1) := by decide +kernel
theorem dX11_copy_56 : decode cX11_copy 56 = .ok (.aload_n 0, 1) := by decide +kernel
theorem dX11_copy_57 : decode cX11_copy 57 = .ok (.invokevirtual 78, 3) := by decide +kernel
theorem dX11_copy_60 : decode cX11_copy 60 = .ok (.aload_n 0, 1) := by decide +kernel
theorem dX11_copy_61 : decode cX11_copy 61 = .ok (.iload_n 1, 1) := by decide +kernel
theorem dX11_copy_62 : decode cX11_copy 62 = .ok (.invokevirtual 153, 3) := by decide +kernel
theorem dX11_copy_65 : decode cX11_copy 65 = .ok (.ireturn, 1) := by decide +kernel
theorem dX11_isPrime_0 : decode cX11_isPrime 0 = .ok (.iload_n 0, 1) := by decide +kernel
theorem dX11_isPrime_1 : decode cX11_isPrime 1 = .ok (.iconst 1, 1) := by decide +kernel
theorem dX11_isPrime_2 : decode cX11_isPrime 2 = .ok (.if_icmp .le 7, 3) := by decide +kernel
theorem dX11_isPrime_5 : decode cX11_isPrime 5 = .ok (.iconst 1, 1) := by decide +kernel
theorem dX11_isPrime_6 : decode cX11_isPrime 6 = .ok (.goto 4, 3) := by decide +kernel
theorem dX11_isPrime_9 : decode cX11_isPrime 9 = .ok (.iconst 0, 1) := by decide +kernel
theorem dX11_isPrime_10 : decode cX11_isPrime 10 = .ok (.istore_n 1, 1) := by decide +kernel
theorem dX11_isPrime_11 : decode cX11_isPrime 11 = .ok (.iconst 2, 1) := by decide +kernel
theorem dX11_isPrime_12 : decode cX11_isPrime 12 = .ok (.istore_n 2, 1) := by decide +kernel
theorem dX11_isPrime_13 : decode cX11_isPrime 13 = .ok (.iload_n 2, 1) := by decide +kernel
theorem dX11_isPrime_14 : decode cX11_isPrime 14 = .ok (.iload_n 0, 1) := by decide +kernel
theorem dX11_isPrime_15 : decode cX11_isPrime 15 = .ok (.if_icmp .ge 25, 3) := by decide +kernel
theorem dX11_isPrime_18 : decode cX11_isPrime 18 = .ok (.iload_n 1, 1) := by decide +kernel
theorem dX11_isPrime_19 : decode cX11_isPrime 19 = .ok (.ifCond .eq 13, 3) := by decide +kernel
theorem dX11_isPrime_22 : decode cX11_isPrime 22 = .ok (.iload_n 0, 1) := by decide +kernel
theorem dX11_isPrime_23 : decode cX11_isPrime 23 = .ok (.iload_n 2, 1) := by decide +kernel
theorem dX11_isPrime_24 : decode cX11_isPrime 24 = .ok (.irem, 1) := by decide +kernel
theorem dX11_isPrime_25 : decode cX11_isPrime 25 = .ok (.ifCond .le 7, 3) := by decide +kernel
theorem dX11_isPrime_28 : decode cX11_isPrime 28 = .ok (.iconst 1, 1) := by decide +kernel
theorem dX11_isPrime_29 : decode cX11_isPrime 29 = .ok (.goto 4, 3) := by decide +kernel
theorem dX11_isPrime_32 : decode cX11_isPrime 32 = .ok (.iconst 0, 1) := by decide +kernel
theorem dX11_isPrime_33 : decode cX11_isPrime 33 = .ok (.istore_n 1, 1) := by decide +kernel
theorem dX11_isPrime_34 : decode cX11_isPrime 34 = .ok (.iinc 2 1, 3) := by decide +kernel
theorem dX11_isPrime_37 : decode cX11_isPrime 37 = .ok (.goto (-24), 3) := by decide +kernel
theorem dX11_isPrime_40 : decode cX11_isPrime 40 = .ok (.iload_n 1, 1) := by decide +kernel
theorem dX11_isPrime_41 : decode cX11_isPrime 41 = .ok (.ireturn, 1) := by decide +kernel
set_option maxRecDepth 20000 in
theorem ggX11_setModulus_X11_in : GoodIn wsX11_setModulus wsX11_in := goodIn_r _ [5] (by decide +kernel) (by decide +kernel)
set_option maxRecDepth 20000 in
theorem gX11_setModulus_X11_in : GoodIn wsX11_setModulus (va_wsS RX11 101 yX11_in wsX11_in) := goodIn_app (goodIn_of _ (by decide +kernel)) ggX11_setModulus_X11_in
set_option maxRecDepth 20000 in
theorem ggX11_setModulus_X11_isPrime : GoodIn wsX11_setModulus wsX11_isPrime := goodIn_r _ [8] (by decide +kernel) (by decide +kernel)
set_option maxRecDepth 20000 in
theorem gX11_setModulus_X11_isPrime : GoodIn wsX11_setModulus (va_wsS RX11 170 yX11_isPrime wsX11_isPrime) := goodIn_app (goodIn_of _ (by decide +kernel)) ggX11_setModulus_X11_isPrime
set_option maxRecDepth 20000 in
theorem ggX11_setModulus_X11_asks : GoodIn wsX11_setModulus wsX11_asks := goodIn_r _ [12, 13, 20, 21, 22, 23, 24, 25, 26, 27, 28, 29, 30, 31, 32, 33, 34, 35, 36, 37, 38, 39, 40, 41, 42, 43, 44, 45] (by decide +kernel) (by decide +kernel)
set_option maxRecDepth 20000 in
theorem gX11_setModulus_X11_asks : GoodIn wsX11_setModulus (wsV RX11 66 RX11 yX11_asks wsX11_asks) := goodIn_app (goodIn_of _ (by decide +kernel)) ggX11_setModulus_X11_asks
set_option maxRecDepth 20000 in
theorem ggX11_setModulus_X11_record : GoodIn wsX11_setModulus wsX11_record := goodIn_r _ [17, 18, 19, 1, 20, 21, 22, 23, 24, 25, 26, 27, 28, 29, 30, 31, 32, 33, 34, 35, 36, 37, 38, 39, 40, 41, 42, 43, 44, 45] (by decide +kernel) (by decide +kernel)
set_option maxRecDepth 20000 in
theorem gX11_setModulus_X11_record : GoodIn wsX11_setModulus (wsV RX11 78 RX11 yX11_record wsX11_record) := goodIn_app (goodIn_of _ (by decide +kernel)) ggX11_setModulus_X11_record
theorem dX11_setModulus_0 : decode cX11_setModulus 0 = .ok (.aload_n 0, 1) := by decide +kernel
theorem dX11_setModulus_1 : decode cX11_setModulus 1 = .ok (.iload_n 1, 1) := by decide +kernel
theorem dX11_setModulus_2 : decode cX11_setModulus 2 = .ok (.iconst 2, 1) := by decide +kernel
theorem dX11_setModulus_3 : decode cX11_setModulus 3 = .ok (.sipush 199, 3) := by decide +kernel
theorem dX11_setModulus_6 : decode cX11_setModulus 6 = .ok (.invokestatic 101, 3) := by decide +kernel
theorem dX11_setModulus_9 : decode cX11_setModulus 9 = .ok (.ifCond .eq 14, 3) := by decide +kernel
theorem dX11_setModulus_12 : decode cX11_setModulus 12 = .ok (.iload_n 1, 1) := by decide +kernel
theorem dX11_setModulus_13 : decode cX11_setModulus 13 = .ok (.invokestatic 170, 3) := by decide +kernel
theorem dX11_setModulus_16 : decode cX11_setModulus 16 = .ok (.ifCond .eq 7, 3) := by decide +kernel
theorem dX11_setModulus_19 : decode cX11_setModulus 19 = .ok (.iconst 1, 1) := by decide +kernel
theorem dX11_setModulus_20 : decode cX11_setModulus 20 = .ok (.goto 4, 3) := by decide +kernel
theorem dX11_setModulus_23 : decode cX11_setModulus 23 = .ok (.iconst 0, 1) := by decide +kernel
theorem dX11_setModulus_24 : decode cX11_setModulus 24 = .ok (.invokevirtual 66, 3) := by decide +kernel
theorem dX11_setModulus_27 : decode cX11_setModulus 27 = .ok (.ifCond .ne 5, 3) := by decide +kernel
theorem dX11_setModulus_30 : decode cX11_setModulus 30 = .ok (.iconst 0, 1) := by decide +kernel
theorem dX11_setModulus_31 : decode cX11_setModulus 31 = .ok (.ireturn, 1) := by decide +kernel
theorem dX11_setModulus_32 : decode cX11_setModulus 32 = .ok (.aload_n 0, 1) := by decide +kernel
theorem dX11_setModulus_33 : decode cX11_setModulus 33 = .ok (.invokevirtual 78, 3) := by decide +kernel
theorem dX11_setModulus_36 : decode cX11_setModulus 36 = .ok (.aload_n 0, 1) := by decide +kernel
theorem dX11_setModulus_37 : decode cX11_setModulus 37 = .ok (.getfield 7, 3) := by decide +kernel
theorem dX11_setModulus_40 : decode cX11_setModulus 40 = .ok (.iconst 0, 1) := by decide +kernel
theorem dX11_setModulus_41 : decode cX11_setModulus 41 = .ok (.iaload, 1) := by decide +kernel
theorem dX11_setModulus_42 : decode cX11_setModulus 42 = .ok (.istore_n 2, 1) := by decide +kernel
theorem dX11_setModulus_43 : decode cX11_setModulus 43 = .ok (.aload_n 0, 1) := by decide +kernel
theorem dX11_setModulus_44 : decode cX11_setModulus 44 = .ok (.getfield 7, 3) := by decide +kernel
theorem dX11_setModulus_47 : decode cX11_setModulus 47 = .ok (.iconst 0, 1) := by decide +kernel
theorem dX11_setModulus_48 : decode cX11_setModulus 48 = .ok (.iload_n 1, 1) := by decide +kernel
theorem dX11_setModulus_49 : decode cX11_setModulus 49 = .ok (.iastore, 1) := by decide +kernel
theorem dX11_setModulus_50 : decode cX11_setModulus 50 = .ok (.iload_n 2, 1) := by decide +kernel
theorem dX11_setModulus_51 : decode cX11_setModulus 51 = .ok (.ireturn, 1) := by decide +kernel
set_option maxRecDepth 20000 in
theorem ggX11_links_X11_size : GoodIn wsX11_links wsX11_size := goodIn_r _ [8, 9, 14, 15, 16, 17, 18, 19, 20, 21, 22, 23, 24, 25, 26, 27, 28, 29, 30, 31, 32, 33, 34, 35, 36, 37, 38, 39] (by decide +kernel) (by decide +kernel)
set_option maxRecDepth 20000 in
theorem gX11_links_X11_size : GoodIn wsX11_links (wsV RX11 156 RX11 yX11_size wsX11_size) := goodIn_app (goodIn_of _ (by decide +kernel)) ggX11_links_X11_size
set_option maxRecDepth 20000 in
theorem ggX11_links_X11_kind : GoodIn wsX11_links wsX11_kind := goodIn_r _ [13, 9, 14, 15, 16, 17, 18, 19, 20, 21, 22, 23, 24, 25, 26, 27, 28, 29, 30, 31, 32, 33, 34, 35, 36, 37, 38, 39] (by decide +kernel) (by decide +kernel)
set_option maxRecDepth 20000 in
theorem gX11_links_X11_kind : GoodIn wsX11_links (wsV RX11 159 RX11 yX11_kind wsX11_kind) := goodIn_app (goodIn_of _ (by decide +kernel)) ggX11_links_X11_kind
theorem dX11_links_0 : decode cX11_links 0 = .ok (.iconst 0, 1) := by decide +kernel
theorem dX11_links_1 : decode cX11_links 1 = .ok (.istore_n 2, 1) := by decide +kernel
theorem dX11_links_2 : decode cX11_links 2 = .ok (.iconst 0, 1) := by decide +kernel
theorem dX11_links_3 : decode cX11_links 3 = .ok (.istore_n 3, 1) := by decide +kernel
theorem dX11_links_4 : decode cX11_links 4 = .ok (.iload_n 3, 1) := by decide +kernel
theorem dX11_links_5 : decode cX11_links 5 = .ok (.aload_n 0, 1) := by decide +kernel
theorem dX11_links_6 : decode cX11_links 6 = .ok (.iload_n 1, 1) := by decide +kernel
theorem dX11_links_7 : decode cX11_links 7 = .ok (.invokevirtual 156, 3) := by decide +kernel
theorem dX11_links_10 : decode cX11_links 10 = .ok (.if_icmp .ge 158, 3) := by decide +kernel
theorem dX11_links_13 : decode cX11_links 13 = .ok (.aload_n 0, 1) := by decide +kernel
theorem dX11_links_14 : decode cX11_links 14 = .ok (.iload_n 1, 1) := by decide +kernel
theorem dX11_links_15 : decode cX11_links 15 = .ok (.iload_n 3, 1) := by decide +kernel
theorem dX11_links_16 : decode cX11_links 16 = .ok (.invokevirtual 159, 3) := by decide +kernel
theorem dX11_links_19 : decode cX11_links 19 = .ok (.istore 4, 2) := by decide +kernel
theorem dX11_links_21 : decode cX11_links 21 = .ok (.iload 4, 2) := by decide +kernel
theorem dX11_links_23 : decode cX11_links 23 = .ok (.iconst 3, 1) := by decide +kernel
theorem dX11_links_24 : decode cX11_links 24 = .ok (.if_icmp .lt 14, 3) := by decide +kernel
theorem dX11_links_27 : decode cX11_links 27 = .ok (.iload 4, 2) := by decide +kernel
theorem dX11_links_29 : decode cX11_links 29 = .ok (.bipush 6, 2) := by decide +kernel
theorem dX11_links_31 : decode cX11_links 31 = .ok (.if_icmp .gt 7, 3) := by decide +kernel
theorem dX11_links_34 : decode cX11_links 34 = .ok (.iconst 1, 1) := by decide +kernel
theorem dX11_links_35 : decode cX11_links 35 = .ok (.goto 4, 3) := by decide +kernel
theorem dX11_links_38 : decode cX11_links 38 = .ok (.iconst 0, 1) := by decide +kernel
theorem dX11_links_39 : decode cX11_links 39 = .ok (.istore 5, 2) := by decide +kernel
theorem dX11_links_41 : decode cX11_links 41 = .ok (.iload 4, 2) := by decide +kernel
theorem dX11_links_43 : decode cX11_links 43 = .ok (.iconst 2, 1) := by decide +kernel
theorem dX11_links_44 : decode cX11_links 44 = .ok (.if_icmp .eq 17, 3) := by decide +kernel
theorem dX11_links_47 : decode cX11_links 47 = .ok (.iload 4, 2) := by decide +kernel
theorem dX11_links_49 : decode cX11_links 49 = .ok (.bipush 7, 2) := by decide +kernel
theorem dX11_links_51 : decode cX11_links 51 = .ok (.if_icmp .eq 10, 3) := by decide +kernel
theorem dX11_links_54 : decode cX11_links 54 = .ok (.iload 4, 2) := by decide +kernel
theorem dX11_links_56 : decode cX11_links 56 = .ok (.bipush 8, 2) := by decide +kernel
theorem dX11_links_58 : decode cX11_links 58 = .ok (.if_icmp .ne 7, 3) := by decide +kernel
theorem dX11_links_61 : decode cX11_links 61 = .ok (.iconst 1, 1) := by decide +kernel
theorem dX11_links_62 : decode cX11_links 62 = .ok (.goto 4, 3) := by decide +kernel
theorem dX11_links_65 : decode cX11_links 65 = .ok (.iconst 0, 1) := by decide +kernel
theorem dX11_links_66 : decode cX11_links 66 = .ok (.istore 6, 2) := by decide +kernel
theorem dX11_links_68 : decode cX11_links 68 = .ok (.aload_n 0, 1) := by decide +kernel
theorem dX11_links_69 : decode cX11_links 69 = .ok (.getfield 50, 3) := by decide +kernel
theorem dX11_links_72 : decode cX11_links 72 = .ok (.iload_n 3, 1) := by decide +kernel
theorem dX11_links_73 : decode cX11_links 73 = .ok (.iload 5, 2) := by decide +kernel
theorem dX11_links_75 : decode cX11_links 75 = .ok (.ifCond .eq 14, 3) := by decide +kernel
theorem dX11_links_78 : decode cX11_links 78 = .ok (.aload_n 0, 1) := by decide +kernel
theorem dX11_links_79 : decode cX11_links 79 = .ok (.getfield 56, 3) := by decide +kernel
theorem dX11_links_82 : decode cX11_links 82 = .ok (.iload_n 2, 1) := by decide +kernel
theorem dX11_links_83 : decode cX11_links 83 = .ok (.iconst 1, 1) := by decide +kernel
theorem dX11_links_84 : decode cX11_links 84 = .ok (.isub, 1) := by decide +kernel
theorem dX11_links_85 : decode cX11_links 85 = .ok (.iaload, 1) := by decide +kernel
theorem dX11_links_86 : decode cX11_links 86 = .ok (.goto 4, 3) := by decide +kernel
theorem dX11_links_89 : decode cX11_links 89 = .ok (.iconst (-1), 1) := by decide +kernel
theorem dX11_links_90 : decode cX11_links 90 = .ok (.iastore, 1) := by decide +kernel
theorem dX11_links_91 : decode cX11_links 91 = .ok (.aload_n 0, 1) := by decide +kernel
theorem dX11_links_92 : decode cX11_links 92 = .ok (.getfield 47, 3) := by decide +kernel
theorem dX11_links_95 : decode cX11_links 95 = .ok (.iload_n 3, 1) := by decide +kernel
theorem dX11_links_96 : decode cX11_links 96 = .ok (.iload 5, 2) := by decide +kernel
theorem dX11_links_98 : decode cX11_links 98 = .ok (.ifCond .eq 14, 3) := by decide +kernel
theorem dX11_links_101 : decode cX11_links 101 = .ok (.aload_n 0, 1) := by decide +kernel
theorem dX11_links_102 : decode cX11_links 102 = .ok (.getfield 56, 3) := by decide +kernel
theorem dX11_links_105 : decode cX11_links 105 = .ok (.iload_n 2, 1) := by decide +kernel
theorem dX11_links_106 : decode cX11_links 106 = .ok (.iconst 2, 1) := by decide +kernel
theorem dX11_links_107 : decode cX11_links 107 = .ok (.isub, 1) := by decide +kernel
theorem dX11_links_108 : decode cX11_links 108 = .ok (.iaload, 1) := by decide +kernel
theorem dX11_links_109 : decode cX11_links 109 = .ok (.goto 20, 3) := by decide +kernel
theorem dX11_links_112 : decode cX11_links 112 = .ok (.iload 6, 2) := by decide +kernel
theorem dX11_links_114 : decode cX11_links 114 = .ok (.ifCond .eq 14, 3) := by decide +kernel
theorem dX11_links_117 : decode cX11_links 117 = .ok (.aload_n 0, 1) := by decide +kernel
theorem dX11_links_118 : decode cX11_links 118 = .ok (.getfield 56, 3) := by decide +kernel
theorem dX11_links_121 : decode cX11_links 121 = .ok (.iload_n 2, 1) := by decide +kernel
theorem dX11_links_122 : decode cX11_links 122 = .ok (.iconst 1, 1) := by decide +kernel
theorem dX11_links_123 : decode cX11_links 123 = .ok (.isub, 1) := by decide +kernel
theorem dX11_links_124 : decode cX11_links 124 = .ok (.iaload, 1) := by decide +kernel
theorem dX11_links_125 : decode cX11_links 125 = .ok (.goto 4, 3) := by decide +kernel
theorem dX11_links_128 : decode cX11_links 128 = .ok (.iconst (-1), 1) := by decide +kernel
theorem dX11_links_129 : decode cX11_links 129 = .ok (.iastore, 1) := by decide +kernel
theorem dX11_links_130 : decode cX11_links 130 = .ok (.iload_n 2, 1) := by decide +kernel
theorem dX11_links_131 : decode cX11_links 131 = .ok (.iload 5, 2) := by decide +kernel
theorem dX11_links_133 : decode cX11_links 133 = .ok (.ifCond .eq 7, 3) := by decide +kernel
theorem dX11_links_136 : decode cX11_links 136 = .ok (.iconst 2, 1) := by decide +kernel
theorem dX11_links_137 : decode cX11_links 137 = .ok (.goto 13, 3) := by decide +kernel
theorem dX11_links_140 : decode cX11_links 140 = .ok (.iload 6, 2) := by decide +kernel
theorem dX11_links_142 : decode cX11_links 142 = .ok (.ifCond .eq 7, 3) := by decide +kernel
theorem dX11_links_145 : decode cX11_links 145 = .ok (.iconst 1, 1) := by decide +kernel
theorem dX11_links_146 : decode cX11_links 146 = .ok (.goto 4, 3) := by decide +kernel
theorem dX11_links_149 : decode cX11_links 149 = .ok (.iconst 0, 1) := by decide +kernel
theorem dX11_links_150 : decode cX11_links 150 = .ok (.isub, 1) := by decide +kernel
theorem dX11_links_151 : decode cX11_links 151 = .ok (.istore_n 2, 1) := by decide +kernel
theorem dX11_links_152 : decode cX11_links 152 = .ok (.aload_n 0, 1) := by decide +kernel
theorem dX11_links_153 : decode cX11_links 153 = .ok (.getfield 56, 3) := by decide +kernel
theorem dX11_links_156 : decode cX11_links 156 = .ok (.iload_n 2, 1) := by decide +kernel
theorem dX11_links_157 : decode cX11_links 157 = .ok (.iload_n 3, 1) := by decide +kernel
theorem dX11_links_158 : decode cX11_links 158 = .ok (.iastore, 1) := by decide +kernel
theorem dX11_links_159 : decode cX11_links 159 = .ok (.iinc 2 1, 3) := by decide +kernel
theorem dX11_links_162 : decode cX11_links 162 = .ok (.iinc 3 1, 3) := by decide +kernel
theorem dX11_links_165 : decode cX11_links 165 = .ok (.goto (-161), 3) := by decide +kernel
theorem dX11_links_168 : decode cX11_links 168 = .ok (.return_, 1) := by decide +kernel
set_option maxRecDepth 20000 in
theorem ggX11_nodesOf_X11_isFunction : GoodIn wsX11_nodesOf wsX11_isFunction := goodIn_r _ [4, 5, 6, 3, 7] (by decide +kernel) (by decide +kernel)
set_option maxRecDepth 20000 in
theorem gX11_nodesOf_X11_isFunction : GoodIn wsX11_nodesOf (va_wsS RX11 146 yX11_isFunction wsX11_isFunction) := goodIn_app (goodIn_of _ (by decide +kernel)) ggX11_nodesOf_X11_isFunction
set_option maxRecDepth 20000 in
theorem ggX11_nodesOf_X11_asks : GoodIn wsX11_nodesOf wsX11_asks := goodIn_r _ [11, 12, 18, 19, 20, 21, 22, 23, 24, 25, 26, 27, 28, 29, 30, 31, 32, 33, 34, 35, 36, 37, 38, 39, 40, 41, 42, 43] (by decide +kernel) (by decide +kernel)
set_option maxRecDepth 20000 in
theorem gX11_nodesOf_X11_asks : GoodIn wsX11_nodesOf (wsV RX11 66 RX11 yX11_asks wsX11_asks) := goodIn_app (goodIn_of _ (by decide +kernel)) ggX11_nodesOf_X11_asks
set_option maxRecDepth 20000 in
theorem ggX11_nodesOf_X11_size : GoodIn wsX11_nodesOf wsX11_size := goodIn_r _ [16, 17, 18, 19, 20, 21, 22, 23, 24, 25, 26, 27, 28, 29, 30, 31, 32, 33, 34, 35, 36, 37, 38, 39, 40, 41, 42, 43] (by decide +kernel) (by decide +kernel)
set_option maxRecDepth 20000 in
theorem gX11_nodesOf_X11_size : GoodIn wsX11_nodesOf (wsV RX11 156 RX11 yX11_size wsX11_size) := goodIn_app (goodIn_of _ (by decide +kernel)) ggX11_nodesOf_X11_size
theorem dX11_nodesOf_0 : decode cX11_nodesOf 0 = .ok (.aload_n 0, 1) := by decide +kernel
theorem dX11_nodesOf_1 : decode cX11_nodesOf 1 = .ok (.iload_n 1, 1) := by decide +kernel
theorem dX11_nodesOf_2 : decode cX11_nodesOf 2 = .ok (.invokestatic 146, 3) := by decide +kernel
theorem dX11_nodesOf_5 : decode cX11_nodesOf 5 = .ok (.invokevirtual 66, 3) := by decide +kernel
theorem dX11_nodesOf_8 : decode cX11_nodesOf 8 = .ok (.ifCond .eq 11, 3) := by decide +kernel
theorem dX11_nodesOf_11 : decode cX11_nodesOf 11 = .ok (.aload_n 0, 1) := by decide +kernel
theorem dX11_nodesOf_12 : decode cX11_nodesOf 12 = .ok (.iload_n 1, 1) := by decide +kernel
theorem dX11_nodesOf_13 : decode cX11_nodesOf 13 = .ok (.invokevirtual 156, 3) := by decide +kernel
theorem dX11_nodesOf_16 : decode cX11_nodesOf 16 = .ok (.goto 4, 3) := by decide +kernel
theorem dX11_nodesOf_19 : decode cX11_nodesOf 19 = .ok (.iconst 0, 1) := by decide +kernel
theorem dX11_nodesOf_20 : decode cX11_nodesOf 20 = .ok (.ireturn, 1) := by decide +kernel
set_option maxRecDepth 20000 in
theorem ggX11_unlike_X11_links : GoodIn wsX11_unlike wsX11_links := goodIn_r _ [8, 3, 9, 2, 10, 11, 12, 7, 13, 14, 15, 16, 17, 18, 23, 24, 25, 26, 27, 28, 29, 30, 31, 32, 33, 34, 35, 36, 37, 38, 39, 40, 41, 42, 43, 44, 45, 46, 47, 48] (by decide +kernel) (by decide +kernel)
set_option maxRecDepth 20000 in
theorem gX11_unlike_X11_links : GoodIn wsX11_unlike (wsV RX11 173 RX11 yX11_links wsX11_links) := goodIn_app (goodIn_of _ (by decide +kernel)) ggX11_unlike_X11_links
set_option maxRecDepth 20000 in
theorem ggX11_unlike_X11_size : GoodIn wsX11_unlike wsX11_size := goodIn_r _ [13, 14, 23, 24, 25, 26, 27, 28, 29, 30, 31, 32, 33, 34, 35, 36, 37, 38, 39, 40, 41, 42, 43, 44, 45, 46, 47, 48] (by decide +kernel) (by decide +kernel)
set_option maxRecDepth 20000 in
theorem gX11_unlike_X11_size : GoodIn wsX11_unlike (wsV RX11 156 RX11 yX11_size wsX11_size) := goodIn_app (goodIn_of _ (by decide +kernel)) ggX11_unlike_X11_size
set_option maxRecDepth 20000 in
theorem ggX11_unlike_X11_kind : GoodIn wsX11_unlike wsX11_kind := goodIn_r _ [18, 14, 23, 24, 25, 26, 27, 28, 29, 30, 31, 32, 33, 34, 35, 36, 37, 38, 39, 40, 41, 42, 43, 44, 45, 46, 47, 48] (by decide +kernel) (by decide +kernel)
set_option maxRecDepth 20000 in
theorem gX11_unlike_X11_kind : GoodIn wsX11_unlike (wsV RX11 159 RX11 yX11_kind wsX11_kind) := goodIn_app (goodIn_of _ (by decide +kernel)) ggX11_unlike_X11_kind
set_option maxRecDepth 20000 in
theorem ggX11_unlike_X11_number : GoodIn wsX11_unlike wsX11_number := goodIn_r _ [22, 14, 23, 24, 25, 26, 27, 28, 29, 30, 31, 32, 33, 34, 35, 36, 37, 38, 39, 40, 41, 42, 43, 44, 45, 46, 47, 48] (by decide +kernel) (by decide +kernel)
set_option maxRecDepth 20000 in
theorem gX11_unlike_X11_number : GoodIn wsX11_unlike (wsV RX11 163 RX11 yX11_number wsX11_number) := goodIn_app (goodIn_of _ (by decide +kernel)) ggX11_unlike_X11_number
theorem dX11_unlike_0 : decode cX11_unlike 0 = .ok (.aload_n 0, 1) := by decide +kernel
theorem dX11_unlike_1 : decode cX11_unlike 1 = .ok (.iload_n 1, 1) := by decide +kernel
theorem dX11_unlike_2 : decode cX11_unlike 2 = .ok (.invokevirtual 173, 3) := by decide +kernel
theorem dX11_unlike_5 : decode cX11_unlike 5 = .ok (.iconst 0, 1) := by decide +kernel
theorem dX11_unlike_6 : decode cX11_unlike 6 = .ok (.istore_n 2, 1) := by decide +kernel
theorem dX11_unlike_7 : decode cX11_unlike 7 = .ok (.iconst 0, 1) := by decide +kernel
theorem dX11_unlike_8 : decode cX11_unlike 8 = .ok (.istore_n 3, 1) := by decide +kernel
theorem dX11_unlike_9 : decode cX11_unlike 9 = .ok (.iload_n 3, 1) := by decide +kernel
theorem dX11_unlike_10 : decode cX11_unlike 10 = .ok (.aload_n 0, 1) := by decide +kernel
theorem dX11_unlike_11 : decode cX11_unlike 11 = .ok (.iload_n 1, 1) := by decide +kernel
theorem dX11_unlike_12 : decode cX11_unlike 12 = .ok (.invokevirtual 156, 3) := by decide +kernel
theorem dX11_unlike_15 : decode cX11_unlike 15 = .ok (.if_icmp .ge 207, 3) := by decide +kernel
theorem dX11_unlike_18 : decode cX11_unlike 18 = .ok (.aload_n 0, 1) := by decide +kernel
theorem dX11_unlike_19 : decode cX11_unlike 19 = .ok (.getfield 53, 3) := by decide +kernel
theorem dX11_unlike_22 : decode cX11_unlike 22 = .ok (.iload_n 3, 1) := by decide +kernel
theorem dX11_unlike_23 : decode cX11_unlike 23 = .ok (.iload_n 3, 1) := by decide +kernel
theorem dX11_unlike_24 : decode cX11_unlike 24 = .ok (.iastore, 1) := by decide +kernel
theorem dX11_unlike_25 : decode cX11_unlike 25 = .ok (.iload_n 3, 1) := by decide +kernel
theorem dX11_unlike_26 : decode cX11_unlike 26 = .ok (.iconst 1, 1) := by decide +kernel
theorem dX11_unlike_27 : decode cX11_unlike 27 = .ok (.isub, 1) := by decide +kernel
theorem dX11_unlike_28 : decode cX11_unlike 28 = .ok (.istore 4, 2) := by decide +kernel
theorem dX11_unlike_30 : decode cX11_unlike 30 = .ok (.iload 4, 2) := by decide +kernel
theorem dX11_unlike_32 : decode cX11_unlike 32 = .ok (.ifCond .lt 166, 3) := by decide +kernel
theorem dX11_unlike_35 : decode cX11_unlike 35 = .ok (.aload_n 0, 1) := by decide +kernel
theorem dX11_unlike_36 : decode cX11_unlike 36 = .ok (.iload_n 1, 1) := by decide +kernel
theorem dX11_unlike_37 : decode cX11_unlike 37 = .ok (.iload 4, 2) := by decide +kernel
theorem dX11_unlike_39 : decode cX11_unlike 39 = .ok (.invokevirtual 159, 3) := by decide +kernel
theorem dX11_unlike_42 : decode cX11_unlike 42 = .ok (.aload_n 0, 1) := by decide +kernel
theorem dX11_unlike_43 : decode cX11_unlike 43 = .ok (.iload_n 1, 1) := by decide +kernel
theorem dX11_unlike_44 : decode cX11_unlike 44 = .ok (.iload_n 3, 1) := by decide +kernel
theorem dX11_unlike_45 : decode cX11_unlike 45 = .ok (.invokevirtual 159, 3) := by decide +kernel
theorem dX11_unlike_48 : decode cX11_unlike 48 = .ok (.if_icmp .ne 23, 3) := by decide +kernel
theorem dX11_unlike_51 : decode cX11_unlike 51 = .ok (.aload_n 0, 1) := by decide +kernel
theorem dX11_unlike_52 : decode cX11_unlike 52 = .ok (.iload_n 1, 1) := by decide +kernel
theorem dX11_unlike_53 : decode cX11_unlike 53 = .ok (.iload 4, 2) := by decide +kernel
theorem dX11_unlike_55 : decode cX11_unlike 55 = .ok (.invokevirtual 163, 3) := by decide +kernel
theorem dX11_unlike_58 : decode cX11_unlike 58 = .ok (.aload_n 0, 1) := by decide +kernel
theorem dX11_unlike_59 : decode cX11_unlike 59 = .ok (.iload_n 1, 1) := by decide +kernel
theorem dX11_unlike_60 : decode cX11_unlike 60 = .ok (.iload_n 3, 1) := by decide +kernel
theorem dX11_unlike_61 : decode cX11_unlike 61 = .ok (.invokevirtual 163, 3) := by decide +kernel
theorem dX11_unlike_64 : decode cX11_unlike 64 = .ok (.if_icmp .ne 7, 3) := by decide +kernel
theorem dX11_unlike_67 : decode cX11_unlike 67 = .ok (.iconst 1, 1) := by decide +kernel
theorem dX11_unlike_68 : decode cX11_unlike 68 = .ok (.goto 4, 3) := by decide +kernel
theorem dX11_unlike_71 : decode cX11_unlike 71 = .ok (.iconst 0, 1) := by decide +kernel
theorem dX11_unlike_72 : decode cX11_unlike 72 = .ok (.istore 5, 2) := by decide +kernel
theorem dX11_unlike_74 : decode cX11_unlike 74 = .ok (.iload 5, 2) := by decide +kernel
theorem dX11_unlike_76 : decode cX11_unlike 76 = .ok (.ifCond .eq 43, 3) := by decide +kernel
theorem dX11_unlike_79 : decode cX11_unlike 79 = .ok (.aload_n 0, 1) := by decide +kernel
theorem dX11_unlike_80 : decode cX11_unlike 80 = .ok (.getfield 47, 3) := by decide +kernel
theorem dX11_unlike_83 : decode cX11_unlike 83 = .ok (.iload_n 3, 1) := by decide +kernel
theorem dX11_unlike_84 : decode cX11_unlike 84 = .ok (.iaload, 1) := by decide +kernel
theorem dX11_unlike_85 : decode cX11_unlike 85 = .ok (.iconst (-1), 1) := by decide +kernel
theorem dX11_unlike_86 : decode cX11_unlike 86 = .ok (.if_icmp .eq 29, 3) := by decide +kernel
theorem dX11_unlike_89 : decode cX11_unlike 89 = .ok (.aload_n 0, 1) := by decide +kernel
theorem dX11_unlike_90 : decode cX11_unlike 90 = .ok (.getfield 53, 3) := by decide +kernel
theorem dX11_unlike_93 : decode cX11_unlike 93 = .ok (.aload_n 0, 1) := by decide +kernel
theorem dX11_unlike_94 : decode cX11_unlike 94 = .ok (.getfield 47, 3) := by decide +kernel
theorem dX11_unlike_97 : decode cX11_unlike 97 = .ok (.iload_n 3, 1) := by decide +kernel
theorem dX11_unlike_98 : decode cX11_unlike 98 = .ok (.iaload, 1) := by decide +kernel
theorem dX11_unlike_99 : decode cX11_unlike 99 = .ok (.iaload, 1) := by decide +kernel
theorem dX11_unlike_100 : decode cX11_unlike 100 = .ok (.aload_n 0, 1) := by decide +kernel
theorem dX11_unlike_101 : decode cX11_unlike 101 = .ok (.getfield 53, 3) := by decide +kernel
theorem dX11_unlike_104 : decode cX11_unlike 104 = .ok (.aload_n 0, 1) := by decide +kernel
theorem dX11_unlike_105 : decode cX11_unlike 105 = .ok (.getfield 47, 3) := by decide +kernel
theorem dX11_unlike_108 : decode cX11_unlike 108 = .ok (.iload 4, 2) := by decide +kernel
theorem dX11_unlike_110 : decode cX11_unlike 110 = .ok (.iaload, 1) := by decide +kernel
theorem dX11_unlike_111 : decode cX11_unlike 111 = .ok (.iaload, 1) := by decide +kernel
theorem dX11_unlike_112 : decode cX11_unlike 112 = .ok (.if_icmp .ne 7, 3) := by decide +kernel
theorem dX11_unlike_115 : decode cX11_unlike 115 = .ok (.iconst 1, 1) := by decide +kernel
theorem dX11_unlike_116 : decode cX11_unlike 116 = .ok (.goto 4, 3) := by decide +kernel
theorem dX11_unlike_119 : decode cX11_unlike 119 = .ok (.iconst 0, 1) := by decide +kernel
theorem dX11_unlike_120 : decode cX11_unlike 120 = .ok (.istore 5, 2) := by decide +kernel
theorem dX11_unlike_122 : decode cX11_unlike 122 = .ok (.iload 5, 2) := by decide +kernel
theorem dX11_unlike_124 : decode cX11_unlike 124 = .ok (.ifCond .eq 43, 3) := by decide +kernel
theorem dX11_unlike_127 : decode cX11_unlike 127 = .ok (.aload_n 0, 1) := by decide +kernel
theorem dX11_unlike_128 : decode cX11_unlike 128 = .ok (.getfield 50, 3) := by decide +kernel
theorem dX11_unlike_131 : decode cX11_unlike 131 = .ok (.iload_n 3, 1) := by decide +kernel
theorem dX11_unlike_132 : decode cX11_unlike 132 = .ok (.iaload, 1) := by decide +kernel
theorem dX11_unlike_133 : decode cX11_unlike 133 = .ok (.iconst (-1), 1) := by decide +kernel
theorem dX11_unlike_134 : decode cX11_unlike 134 = .ok (.if_icmp .eq 29, 3) := by decide +kernel
theorem dX11_unlike_137 : decode cX11_unlike 137 = .ok (.aload_n 0, 1) := by decide +kernel
theorem dX11_unlike_138 : decode cX11_unlike 138 = .ok (.getfield 53, 3) := by decide +kernel
theorem dX11_unlike_141 : decode cX11_unlike 141 = .ok (.aload_n 0, 1) := by decide +kernel
theorem dX11_unlike_142 : decode cX11_unlike 142 = .ok (.getfield 50, 3) := by decide +kernel
theorem dX11_unlike_145 : decode cX11_unlike 145 = .ok (.iload_n 3, 1) := by decide +kernel
theorem dX11_unlike_146 : decode cX11_unlike 146 = .ok (.iaload, 1) := by decide +kernel
theorem dX11_unlike_147 : decode cX11_unlike 147 = .ok (.iaload, 1) := by decide +kernel
theorem dX11_unlike_148 : decode cX11_unlike 148 = .ok (.aload_n 0, 1) := by decide +kernel
theorem dX11_unlike_149 : decode cX11_unlike 149 = .ok (.getfield 53, 3) := by decide +kernel
theorem dX11_unlike_152 : decode cX11_unlike 152 = .ok (.aload_n 0, 1) := by decide +kernel
theorem dX11_unlike_153 : decode cX11_unlike 153 = .ok (.getfield 50, 3) := by decide +kernel
theorem dX11_unlike_156 : decode cX11_unlike 156 = .ok (.iload 4, 2) := by decide +kernel
theorem dX11_unlike_158 : decode cX11_unlike 158 = .ok (.iaload, 1) := by decide +kernel
theorem dX11_unlike_159 : decode cX11_unlike 159 = .ok (.iaload, 1) := by decide +kernel
theorem dX11_unlike_160 : decode cX11_unlike 160 = .ok (.if_icmp .ne 7, 3) := by decide +kernel
theorem dX11_unlike_163 : decode cX11_unlike 163 = .ok (.iconst 1, 1) := by decide +kernel
theorem dX11_unlike_164 : decode cX11_unlike 164 = .ok (.goto 4, 3) := by decide +kernel
theorem dX11_unlike_167 : decode cX11_unlike 167 = .ok (.iconst 0, 1) := by decide +kernel
theorem dX11_unlike_168 : decode cX11_unlike 168 = .ok (.istore 5, 2) := by decide +kernel
theorem dX11_unlike_170 : decode cX11_unlike 170 = .ok (.aload_n 0, 1) := by decide +kernel
theorem dX11_unlike_171 : decode cX11_unlike 171 = .ok (.getfield 53, 3) := by decide +kernel
theorem dX11_unlike_174 : decode cX11_unlike 174 = .ok (.iload_n 3, 1) := by decide +kernel
theorem dX11_unlike_175 : decode cX11_unlike 175 = .ok (.iload 5, 2) := by decide +kernel
theorem dX11_unlike_177 : decode cX11_unlike 177 = .ok (.ifCond .eq 8, 3) := by decide +kernel
theorem dX11_unlike_180 : decode cX11_unlike 180 = .ok (.iload 4, 2) := by decide +kernel
theorem dX11_unlike_182 : decode cX11_unlike 182 = .ok (.goto 9, 3) := by decide +kernel
theorem dX11_unlike_185 : decode cX11_unlike 185 = .ok (.aload_n 0, 1) := by decide +kernel
theorem dX11_unlike_186 : decode cX11_unlike 186 = .ok (.getfield 53, 3) := by decide +kernel
theorem dX11_unlike_189 : decode cX11_unlike 189 = .ok (.iload_n 3, 1) := by decide +kernel
theorem dX11_unlike_190 : decode cX11_unlike 190 = .ok (.iaload, 1) := by decide +kernel
theorem dX11_unlike_191 : decode cX11_unlike 191 = .ok (.iastore, 1) := by decide +kernel
theorem dX11_unlike_192 : decode cX11_unlike 192 = .ok (.iinc 4 (-1), 3) := by decide +kernel
theorem dX11_unlike_195 : decode cX11_unlike 195 = .ok (.goto (-165), 3) := by decide +kernel
theorem dX11_unlike_198 : decode cX11_unlike 198 = .ok (.iload_n 2, 1) := by decide +kernel
theorem dX11_unlike_199 : decode cX11_unlike 199 = .ok (.aload_n 0, 1) := by decide +kernel
theorem dX11_unlike_200 : decode cX11_unlike 200 = .ok (.getfield 53, 3) := by decide +kernel
theorem dX11_unlike_203 : decode cX11_unlike 203 = .ok (.iload_n 3, 1) := by decide +kernel
theorem dX11_unlike_204 : decode cX11_unlike 204 = .ok (.iaload, 1) := by decide +kernel
theorem dX11_unlike_205 : decode cX11_unlike 205 = .ok (.iload_n 3, 1) := by decide +kernel
theorem dX11_unlike_206 : decode cX11_unlike 206 = .ok (.if_icmp .ne 7, 3) := by decide +kernel
theorem dX11_unlike_209 : decode cX11_unlike 209 = .ok (.iconst 1, 1) := by decide +kernel
theorem dX11_unlike_210 : decode cX11_unlike 210 = .ok (.goto 4, 3) := by decide +kernel
theorem dX11_unlike_213 : decode cX11_unlike 213 = .ok (.iconst 0, 1) := by decide +kernel
theorem dX11_unlike_214 : decode cX11_unlike 214 = .ok (.iadd, 1) := by decide +kernel
theorem dX11_unlike_215 : decode cX11_unlike 215 = .ok (.istore_n 2, 1) := by decide +kernel
theorem dX11_unlike_216 : decode cX11_unlike 216 = .ok (.iinc 3 1, 3) := by decide +kernel
theorem dX11_unlike_219 : decode cX11_unlike 219 = .ok (.goto (-210), 3) := by decide +kernel
theorem dX11_unlike_222 : decode cX11_unlike 222 = .ok (.iload_n 2, 1) := by decide +kernel
theorem dX11_unlike_223 : decode cX11_unlike 223 = .ok (.ireturn, 1) := by decide +kernel
set_option maxRecDepth 20000 in
theorem ggX11_unlikeNodesOf_X11_isFunction : GoodIn wsX11_unlikeNodesOf wsX11_isFunction := goodIn_r _ [4, 5, 6, 3, 7] (by decide +kernel) (by decide +kernel)
set_option maxRecDepth 20000 in
theorem gX11_unlikeNodesOf_X11_isFunction : GoodIn wsX11_unlikeNodesOf (va_wsS RX11 146 yX11_isFunction wsX11_isFunction) := goodIn_app (goodIn_of _ (by decide +kernel)) ggX11_unlikeNodesOf_X11_isFunction
set_option maxRecDepth 20000 in
theorem ggX11_unlikeNodesOf_X11_asks : GoodIn wsX11_unlikeNodesOf wsX11_asks := goodIn_r _ [11, 12, 38, 39, 40, 41, 42, 43, 44, 45, 46, 47, 48, 49, 50, 51, 52, 53, 54, 55, 56, 57, 58, 59, 60, 61, 62, 63] (by decide +kernel) (by decide +kernel)
set_option maxRecDepth 20000 in
theorem gX11_unlikeNodesOf_X11_asks : GoodIn wsX11_unlikeNodesOf (wsV RX11 66 RX11 yX11_asks wsX11_asks) := goodIn_app (goodIn_of _ (by decide +kernel)) ggX11_unlikeNodesOf_X11_asks
set_option maxRecDepth 20000 in
theorem ggX11_unlikeNodesOf_X11_unlike : GoodIn wsX11_unlikeNodesOf wsX11_unlike := goodIn_r _ [16, 17, 18, 19, 20, 21, 22, 3, 23, 24, 25, 26, 27, 28, 29, 30, 31, 32, 33, 34, 35, 36, 37, 38, 39, 40, 41, 42, 43, 44, 45, 46, 47, 48, 49, 50, 51, 52, 53, 54, 55, 56, 57, 58, 59, 60, 61, 62, 63] (by decide +kernel) (by decide +kernel)
set_option maxRecDepth 20000 in
theorem gX11_unlikeNodesOf_X11_unlike : GoodIn wsX11_unlikeNodesOf (wsV RX11 176 RX11 yX11_unlike wsX11_unlike) := goodIn_app (goodIn_of _ (by decide +kernel)) ggX11_unlikeNodesOf_X11_unlike
theorem dX11_unlikeNodesOf_0 : decode cX11_unlikeNodesOf 0 = .ok (.aload_n 0, 1) := by decide +kernel
theorem dX11_unlikeNodesOf_1 : decode cX11_unlikeNodesOf 1 = .ok (.iload_n 1, 1) := by decide +kernel
theorem dX11_unlikeNodesOf_2 : decode cX11_unlikeNodesOf 2 = .ok (.invokestatic 146, 3) := by decide +kernel
theorem dX11_unlikeNodesOf_5 : decode cX11_unlikeNodesOf 5 = .ok (.invokevirtual 66, 3) := by decide +kernel
theorem dX11_unlikeNodesOf_8 : decode cX11_unlikeNodesOf 8 = .ok (.ifCond .eq 11, 3) := by decide +kernel
theorem dX11_unlikeNodesOf_11 : decode cX11_unlikeNodesOf 11 = .ok (.aload_n 0, 1) := by decide +kernel
theorem dX11_unlikeNodesOf_12 : decode cX11_unlikeNodesOf 12 = .ok (.iload_n 1, 1) := by decide +kernel
theorem dX11_unlikeNodesOf_13 : decode cX11_unlikeNodesOf 13 = .ok (.invokevirtual 176, 3) := by decide +kernel
theorem dX11_unlikeNodesOf_16 : decode cX11_unlikeNodesOf 16 = .ok (.goto 4, 3) := by decide +kernel
theorem dX11_unlikeNodesOf_19 : decode cX11_unlikeNodesOf 19 = .ok (.iconst 0, 1) := by decide +kernel
theorem dX11_unlikeNodesOf_20 : decode cX11_unlikeNodesOf 20 = .ok (.ireturn, 1) := by decide +kernel
set_option maxRecDepth 20000 in
theorem ggX11_deep_X11_links : GoodIn wsX11_deep wsX11_links := goodIn_r _ [8, 3, 9, 1, 10, 11, 12, 7, 13, 14, 15, 16, 17, 18, 19, 20, 21, 22, 23, 24, 25, 26, 27, 28, 29, 30, 31, 32, 33, 34, 35, 36, 37, 38, 39, 40, 41, 42, 43, 44] (by decide +kernel) (by decide +kernel)
set_option maxRecDepth 20000 in
theorem gX11_deep_X11_links : GoodIn wsX11_deep (wsV RX11 173 RX11 yX11_links wsX11_links) := goodIn_app (goodIn_of _ (by decide +kernel)) ggX11_deep_X11_links
set_option maxRecDepth 20000 in
theorem ggX11_deep_X11_size : GoodIn wsX11_deep wsX11_size := goodIn_r _ [13, 14, 19, 20, 21, 22, 23, 24, 25, 26, 27, 28, 29, 30, 31, 32, 33, 34, 35, 36, 37, 38, 39, 40, 41, 42, 43, 44] (by decide +kernel) (by decide +kernel)
set_option maxRecDepth 20000 in
theorem gX11_deep_X11_size : GoodIn wsX11_deep (wsV RX11 156 RX11 yX11_size wsX11_size) := goodIn_app (goodIn_of _ (by decide +kernel)) ggX11_deep_X11_size
theorem dX11_deep_0 : decode cX11_deep 0 = .ok (.aload_n 0, 1) := by decide +kernel
theorem dX11_deep_1 : decode cX11_deep 1 = .ok (.iload_n 1, 1) := by decide +kernel
theorem dX11_deep_2 : decode cX11_deep 2 = .ok (.invokevirtual 173, 3) := by decide +kernel
theorem dX11_deep_5 : decode cX11_deep 5 = .ok (.iconst 0, 1) := by decide +kernel
theorem dX11_deep_6 : decode cX11_deep 6 = .ok (.istore_n 2, 1) := by decide +kernel
theorem dX11_deep_7 : decode cX11_deep 7 = .ok (.iconst 0, 1) := by decide +kernel
theorem dX11_deep_8 : decode cX11_deep 8 = .ok (.istore_n 3, 1) := by decide +kernel
theorem dX11_deep_9 : decode cX11_deep 9 = .ok (.iload_n 3, 1) := by decide +kernel
theorem dX11_deep_10 : decode cX11_deep 10 = .ok (.aload_n 0, 1) := by decide +kernel
theorem dX11_deep_11 : decode cX11_deep 11 = .ok (.iload_n 1, 1) := by decide +kernel
theorem dX11_deep_12 : decode cX11_deep 12 = .ok (.invokevirtual 156, 3) := by decide +kernel
theorem dX11_deep_15 : decode cX11_deep 15 = .ok (.if_icmp .ge 106, 3) := by decide +kernel
theorem dX11_deep_18 : decode cX11_deep 18 = .ok (.aload_n 0, 1) := by decide +kernel
theorem dX11_deep_19 : decode cX11_deep 19 = .ok (.getfield 47, 3) := by decide +kernel
theorem dX11_deep_22 : decode cX11_deep 22 = .ok (.iload_n 3, 1) := by decide +kernel
theorem dX11_deep_23 : decode cX11_deep 23 = .ok (.iaload, 1) := by decide +kernel
theorem dX11_deep_24 : decode cX11_deep 24 = .ok (.iconst (-1), 1) := by decide +kernel
theorem dX11_deep_25 : decode cX11_deep 25 = .ok (.if_icmp .ne 7, 3) := by decide +kernel
theorem dX11_deep_28 : decode cX11_deep 28 = .ok (.iconst 0, 1) := by decide +kernel
theorem dX11_deep_29 : decode cX11_deep 29 = .ok (.goto 14, 3) := by decide +kernel
theorem dX11_deep_32 : decode cX11_deep 32 = .ok (.aload_n 0, 1) := by decide +kernel
theorem dX11_deep_33 : decode cX11_deep 33 = .ok (.getfield 53, 3) := by decide +kernel
theorem dX11_deep_36 : decode cX11_deep 36 = .ok (.aload_n 0, 1) := by decide +kernel
theorem dX11_deep_37 : decode cX11_deep 37 = .ok (.getfield 47, 3) := by decide +kernel
theorem dX11_deep_40 : decode cX11_deep 40 = .ok (.iload_n 3, 1) := by decide +kernel
theorem dX11_deep_41 : decode cX11_deep 41 = .ok (.iaload, 1) := by decide +kernel
theorem dX11_deep_42 : decode cX11_deep 42 = .ok (.iaload, 1) := by decide +kernel
theorem dX11_deep_43 : decode cX11_deep 43 = .ok (.istore 4, 2) := by decide +kernel
theorem dX11_deep_45 : decode cX11_deep 45 = .ok (.aload_n 0, 1) := by decide +kernel
theorem dX11_deep_46 : decode cX11_deep 46 = .ok (.getfield 50, 3) := by decide +kernel
theorem dX11_deep_49 : decode cX11_deep 49 = .ok (.iload_n 3, 1) := by decide +kernel
theorem dX11_deep_50 : decode cX11_deep 50 = .ok (.iaload, 1) := by decide +kernel
theorem dX11_deep_51 : decode cX11_deep 51 = .ok (.iconst (-1), 1) := by decide +kernel
theorem dX11_deep_52 : decode cX11_deep 52 = .ok (.if_icmp .ne 7, 3) := by decide +kernel
theorem dX11_deep_55 : decode cX11_deep 55 = .ok (.iconst 0, 1) := by decide +kernel
theorem dX11_deep_56 : decode cX11_deep 56 = .ok (.goto 14, 3) := by decide +kernel
theorem dX11_deep_59 : decode cX11_deep 59 = .ok (.aload_n 0, 1) := by decide +kernel
theorem dX11_deep_60 : decode cX11_deep 60 = .ok (.getfield 53, 3) := by decide +kernel
theorem dX11_deep_63 : decode cX11_deep 63 = .ok (.aload_n 0, 1) := by decide +kernel
theorem dX11_deep_64 : decode cX11_deep 64 = .ok (.getfield 50, 3) := by decide +kernel
theorem dX11_deep_67 : decode cX11_deep 67 = .ok (.iload_n 3, 1) := by decide +kernel
theorem dX11_deep_68 : decode cX11_deep 68 = .ok (.iaload, 1) := by decide +kernel
theorem dX11_deep_69 : decode cX11_deep 69 = .ok (.iaload, 1) := by decide +kernel
theorem dX11_deep_70 : decode cX11_deep 70 = .ok (.istore 5, 2) := by decide +kernel
theorem dX11_deep_72 : decode cX11_deep 72 = .ok (.aload_n 0, 1) := by decide +kernel
theorem dX11_deep_73 : decode cX11_deep 73 = .ok (.getfield 53, 3) := by decide +kernel
theorem dX11_deep_76 : decode cX11_deep 76 = .ok (.iload_n 3, 1) := by decide +kernel
theorem dX11_deep_77 : decode cX11_deep 77 = .ok (.iconst 1, 1) := by decide +kernel
theorem dX11_deep_78 : decode cX11_deep 78 = .ok (.iload 4, 2) := by decide +kernel
theorem dX11_deep_80 : decode cX11_deep 80 = .ok (.iload 5, 2) := by decide +kernel
theorem dX11_deep_82 : decode cX11_deep 82 = .ok (.if_icmp .le 8, 3) := by decide +kernel
theorem dX11_deep_85 : decode cX11_deep 85 = .ok (.iload 4, 2) := by decide +kernel
theorem dX11_deep_87 : decode cX11_deep 87 = .ok (.goto 5, 3) := by decide +kernel
theorem dX11_deep_90 : decode cX11_deep 90 = .ok (.iload 5, 2) := by decide +kernel
theorem dX11_deep_92 : decode cX11_deep 92 = .ok (.iadd, 1) := by decide +kernel
theorem dX11_deep_93 : decode cX11_deep 93 = .ok (.iastore, 1) := by decide +kernel
theorem dX11_deep_94 : decode cX11_deep 94 = .ok (.aload_n 0, 1) := by decide +kernel
theorem dX11_deep_95 : decode cX11_deep 95 = .ok (.getfield 53, 3) := by decide +kernel
theorem dX11_deep_98 : decode cX11_deep 98 = .ok (.iload_n 3, 1) := by decide +kernel
theorem dX11_deep_99 : decode cX11_deep 99 = .ok (.iaload, 1) := by decide +kernel
theorem dX11_deep_100 : decode cX11_deep 100 = .ok (.iload_n 2, 1) := by decide +kernel
theorem dX11_deep_101 : decode cX11_deep 101 = .ok (.if_icmp .le 12, 3) := by decide +kernel
theorem dX11_deep_104 : decode cX11_deep 104 = .ok (.aload_n 0, 1) := by decide +kernel
theorem dX11_deep_105 : decode cX11_deep 105 = .ok (.getfield 53, 3) := by decide +kernel
theorem dX11_deep_108 : decode cX11_deep 108 = .ok (.iload_n 3, 1) := by decide +kernel
theorem dX11_deep_109 : decode cX11_deep 109 = .ok (.iaload, 1) := by decide +kernel
theorem dX11_deep_110 : decode cX11_deep 110 = .ok (.goto 4, 3) := by decide +kernel
theorem dX11_deep_113 : decode cX11_deep 113 = .ok (.iload_n 2, 1) := by decide +kernel
theorem dX11_deep_114 : decode cX11_deep 114 = .ok (.istore_n 2, 1) := by decide +kernel
theorem dX11_deep_115 : decode cX11_deep 115 = .ok (.iinc 3 1, 3) := by decide +kernel
theorem dX11_deep_118 : decode cX11_deep 118 = .ok (.goto (-109), 3) := by decide +kernel
theorem dX11_deep_121 : decode cX11_deep 121 = .ok (.iload_n 2, 1) := by decide +kernel
theorem dX11_deep_122 : decode cX11_deep 122 = .ok (.ireturn, 1) := by decide +kernel
set_option maxRecDepth 20000 in
theorem ggX11_depthOf_X11_isFunction : GoodIn wsX11_depthOf wsX11_isFunction := goodIn_r _ [4, 5, 6, 3, 7] (by decide +kernel) (by decide +kernel)
set_option maxRecDepth 20000 in
theorem gX11_depthOf_X11_isFunction : GoodIn wsX11_depthOf (va_wsS RX11 146 yX11_isFunction wsX11_isFunction) := goodIn_app (goodIn_of _ (by decide +kernel)) ggX11_depthOf_X11_isFunction
set_option maxRecDepth 20000 in
theorem ggX11_depthOf_X11_asks : GoodIn wsX11_depthOf wsX11_asks := goodIn_r _ [11, 12, 34, 35, 36, 37, 38, 39, 40, 41, 42, 43, 44, 45, 46, 47, 48, 49, 50, 51, 52, 53, 54, 55, 56, 57, 58, 59] (by decide +kernel) (by decide +kernel)
set_option maxRecDepth 20000 in
theorem gX11_depthOf_X11_asks : GoodIn wsX11_depthOf (wsV RX11 66 RX11 yX11_asks wsX11_asks) := goodIn_app (goodIn_of _ (by decide +kernel)) ggX11_depthOf_X11_asks
set_option maxRecDepth 20000 in
theorem ggX11_depthOf_X11_deep : GoodIn wsX11_depthOf wsX11_deep := goodIn_r _ [16, 17, 18, 19, 20, 21, 22, 3, 23, 24, 25, 26, 27, 28, 29, 30, 31, 32, 33, 34, 35, 36, 37, 38, 39, 40, 41, 42, 43, 44, 45, 46, 47, 48, 49, 50, 51, 52, 53, 54, 55, 56, 57, 58, 59] (by decide +kernel) (by decide +kernel)
set_option maxRecDepth 20000 in
theorem gX11_depthOf_X11_deep : GoodIn wsX11_depthOf (wsV RX11 179 RX11 yX11_deep wsX11_deep) := goodIn_app (goodIn_of _ (by decide +kernel)) ggX11_depthOf_X11_deep
theorem dX11_depthOf_0 : decode cX11_depthOf 0 = .ok (.aload_n 0, 1) := by decide +kernel
theorem dX11_depthOf_1 : decode cX11_depthOf 1 = .ok (.iload_n 1, 1) := by decide +kernel
theorem dX11_depthOf_2 : decode cX11_depthOf 2 = .ok (.invokestatic 146, 3) := by decide +kernel
theorem dX11_depthOf_5 : decode cX11_depthOf 5 = .ok (.invokevirtual 66, 3) := by decide +kernel
theorem dX11_depthOf_8 : decode cX11_depthOf 8 = .ok (.ifCond .eq 11, 3) := by decide +kernel
theorem dX11_depthOf_11 : decode cX11_depthOf 11 = .ok (.aload_n 0, 1) := by decide +kernel
theorem dX11_depthOf_12 : decode cX11_depthOf 12 = .ok (.iload_n 1, 1) := by decide +kernel
theorem dX11_depthOf_13 : decode cX11_depthOf 13 = .ok (.invokevirtual 179, 3) := by decide +kernel
theorem dX11_depthOf_16 : decode cX11_depthOf 16 = .ok (.goto 4, 3) := by decide +kernel
theorem dX11_depthOf_19 : decode cX11_depthOf 19 = .ok (.iconst 0, 1) := by decide +kernel
theorem dX11_depthOf_20 : decode cX11_depthOf 20 = .ok (.ireturn, 1) := by decide +kernel
theorem dX11_p_0 : decode cX11_p 0 = .ok (.iload_n 1, 1) := by decide +kernel
theorem dX11_p_1 : decode cX11_p 1 = .ok (.aload_n 0, 1) := by decide +kernel
theorem dX11_p_2 : decode cX11_p 2 = .ok (.getfield 7, 3) := by decide +kernel
theorem dX11_p_5 : decode cX11_p 5 = .ok (.iconst 0, 1) := by decide +kernel
theorem dX11_p_6 : decode cX11_p 6 = .ok (.iaload, 1) := by decide +kernel
theorem dX11_p_7 : decode cX11_p 7 = .ok (.irem, 1) := by decide +kernel
theorem dX11_p_8 : decode cX11_p 8 = .ok (.istore_n 2, 1) := by decide +kernel
theorem dX11_p_9 : decode cX11_p 9 = .ok (.iload_n 2, 1) := by decide +kernel
theorem dX11_p_10 : decode cX11_p 10 = .ok (.ifCond .ge 14, 3) := by decide +kernel
theorem dX11_p_13 : decode cX11_p 13 = .ok (.iload_n 2, 1) := by decide +kernel
theorem dX11_p_14 : decode cX11_p 14 = .ok (.aload_n 0, 1) := by decide +kernel
theorem dX11_p_15 : decode cX11_p 15 = .ok (.getfield 7, 3) := by decide +kernel
theorem dX11_p_18 : decode cX11_p 18 = .ok (.iconst 0, 1) := by decide +kernel
theorem dX11_p_19 : decode cX11_p 19 = .ok (.iaload, 1) := by decide +kernel
theorem dX11_p_20 : decode cX11_p 20 = .ok (.iadd, 1) := by decide +kernel
theorem dX11_p_21 : decode cX11_p 21 = .ok (.goto 4, 3) := by decide +kernel
theorem dX11_p_24 : decode cX11_p 24 = .ok (.iload_n 2, 1) := by decide +kernel
theorem dX11_p_25 : decode cX11_p 25 = .ok (.ireturn, 1) := by decide +kernel
set_option maxRecDepth 20000 in
theorem ggX11_power_X11_p : GoodIn wsX11_power wsX11_p := goodIn_r _ [5, 6, 7, 8, 9, 10, 11, 12, 13, 14, 15, 16, 17, 18, 19, 20, 21, 22, 23, 24, 25, 26, 27, 28, 29, 30, 31, 32] (by decide +kernel) (by decide +kernel)
set_option maxRecDepth 20000 in
theorem gX11_power_X11_p : GoodIn wsX11_power (wsV RX11 182 RX11 yX11_p wsX11_p) := goodIn_app (goodIn_of _ (by decide +kernel)) ggX11_power_X11_p
theorem dX11_power_0 : decode cX11_power 0 = .ok (.aload_n 0, 1) := by decide +kernel
theorem dX11_power_1 : decode cX11_power 1 = .ok (.iconst 1, 1) := by decide +kernel
theorem dX11_power_2 : decode cX11_power 2 = .ok (.invokevirtual 182, 3) := by decide +kernel
theorem dX11_power_5 : decode cX11_power 5 = .ok (.istore_n 3, 1) := by decide +kernel
theorem dX11_power_6 : decode cX11_power 6 = .ok (.iconst 0, 1) := by decide +kernel
theorem dX11_power_7 : decode cX11_power 7 = .ok (.istore 4, 2) := by decide +kernel
theorem dX11_power_9 : decode cX11_power 9 = .ok (.iload 4, 2) := by decide +kernel
theorem dX11_power_11 : decode cX11_power 11 = .ok (.iload_n 2, 1) := by decide +kernel
theorem dX11_power_12 : decode cX11_power 12 = .ok (.if_icmp .ge 17, 3) := by decide +kernel
theorem dX11_power_15 : decode cX11_power 15 = .ok (.aload_n 0, 1) := by decide +kernel
theorem dX11_power_16 : decode cX11_power 16 = .ok (.iload_n 3, 1) := by decide +kernel
theorem dX11_power_17 : decode cX11_power 17 = .ok (.iload_n 1, 1) := by decide +kernel
theorem dX11_power_18 : decode cX11_power 18 = .ok (.imul, 1) := by decide +kernel
theorem dX11_power_19 : decode cX11_power 19 = .ok (.invokevirtual 182, 3) := by decide +kernel
theorem dX11_power_22 : decode cX11_power 22 = .ok (.istore_n 3, 1) := by decide +kernel
theorem dX11_power_23 : decode cX11_power 23 = .ok (.iinc 4 1, 3) := by decide +kernel
theorem dX11_power_26 : decode cX11_power 26 = .ok (.goto (-17), 3) := by decide +kernel
theorem dX11_power_29 : decode cX11_power 29 = .ok (.iload_n 3, 1) := by decide +kernel
theorem dX11_power_30 : decode cX11_power 30 = .ok (.ireturn, 1) := by decide +kernel
set_option maxRecDepth 20000 in
theorem ggX11_inverse_X11_p : GoodIn wsX11_inverse wsX11_p := goodIn_r _ [5, 6, 7, 8, 9, 10, 11, 12, 13, 14, 15, 16, 17, 18, 19, 20, 21, 22, 23, 24, 25, 26, 27, 28, 29, 30, 31, 32] (by decide +kernel) (by decide +kernel)
set_option maxRecDepth 20000 in
theorem gX11_inverse_X11_p : GoodIn wsX11_inverse (wsV RX11 182 RX11 yX11_p wsX11_p) := goodIn_app (goodIn_of _ (by decide +kernel)) ggX11_inverse_X11_p
theorem dX11_inverse_0 : decode cX11_inverse 0 = .ok (.iconst 1, 1) := by decide +kernel
theorem dX11_inverse_1 : decode cX11_inverse 1 = .ok (.istore_n 2, 1) := by decide +kernel
theorem dX11_inverse_2 : decode cX11_inverse 2 = .ok (.aload_n 0, 1) := by decide +kernel
theorem dX11_inverse_3 : decode cX11_inverse 3 = .ok (.iload_n 2, 1) := by decide +kernel
theorem dX11_inverse_4 : decode cX11_inverse 4 = .ok (.iload_n 1, 1) := by decide +kernel
theorem dX11_inverse_5 : decode cX11_inverse 5 = .ok (.imul, 1) := by decide +kernel
theorem dX11_inverse_6 : decode cX11_inverse 6 = .ok (.invokevirtual 182, 3) := by decide +kernel
theorem dX11_inverse_9 : decode cX11_inverse 9 = .ok (.aload_n 0, 1) := by decide +kernel
theorem dX11_inverse_10 : decode cX11_inverse 10 = .ok (.iconst 1, 1) := by decide +kernel
theorem dX11_inverse_11 : decode cX11_inverse 11 = .ok (.invokevirtual 182, 3) := by decide +kernel
theorem dX11_inverse_14 : decode cX11_inverse 14 = .ok (.if_icmp .eq 9, 3) := by decide +kernel
theorem dX11_inverse_17 : decode cX11_inverse 17 = .ok (.iinc 2 1, 3) := by decide +kernel
theorem dX11_inverse_20 : decode cX11_inverse 20 = .ok (.goto (-18), 3) := by decide +kernel
theorem dX11_inverse_23 : decode cX11_inverse 23 = .ok (.iload_n 2, 1) := by decide +kernel
theorem dX11_inverse_24 : decode cX11_inverse 24 = .ok (.ireturn, 1) := by decide +kernel
set_option maxRecDepth 20000 in
theorem ggX11_reckons_X11_kind : GoodIn wsX11_reckons wsX11_kind := goodIn_r _ [12, 13, 30, 31, 32, 33, 34, 35, 36, 37, 38, 39, 40, 41, 42, 43, 44, 45, 46, 47, 48, 49, 50, 51, 52, 53, 54, 55] (by decide +kernel) (by decide +kernel)
set_option maxRecDepth 20000 in
theorem gX11_reckons_X11_kind : GoodIn wsX11_reckons (wsV RX11 159 RX11 yX11_kind wsX11_kind) := goodIn_app (goodIn_of _ (by decide +kernel)) ggX11_reckons_X11_kind
set_option maxRecDepth 20000 in
theorem ggX11_reckons_X11_number : GoodIn wsX11_reckons wsX11_number := goodIn_r _ [17, 13, 30, 31, 32, 33, 34, 35, 36, 37, 38, 39, 40, 41, 42, 43, 44, 45, 46, 47, 48, 49, 50, 51, 52, 53, 54, 55] (by decide +kernel) (by decide +kernel)
set_option maxRecDepth 20000 in
theorem gX11_reckons_X11_number : GoodIn wsX11_reckons (wsV RX11 163 RX11 yX11_number wsX11_number) := goodIn_app (goodIn_of _ (by decide +kernel)) ggX11_reckons_X11_number
set_option maxRecDepth 20000 in
theorem ggX11_reckons_X11_p : GoodIn wsX11_reckons wsX11_p := goodIn_r _ [21, 13, 30, 31, 32, 33, 34, 35, 36, 37, 38, 39, 40, 41, 42, 43, 44, 45, 46, 47, 48, 49, 50, 51, 52, 53, 54, 55] (by decide +kernel) (by decide +kernel)
set_option maxRecDepth 20000 in
theorem gX11_reckons_X11_p : GoodIn wsX11_reckons (wsV RX11 182 RX11 yX11_p wsX11_p) := goodIn_app (goodIn_of _ (by decide +kernel)) ggX11_reckons_X11_p
set_option maxRecDepth 20000 in
theorem ggX11_reckons_X11_inverse : GoodIn wsX11_reckons wsX11_inverse := goodIn_r _ [25, 18, 19, 20, 11, 21, 13, 30, 31, 32, 33, 34, 35, 36, 37, 38, 39, 40, 41, 42, 43, 44, 45, 46, 47, 48, 49, 50, 51, 52, 53, 54, 55] (by decide +kernel) (by decide +kernel)
set_option maxRecDepth 20000 in
theorem gX11_reckons_X11_inverse : GoodIn wsX11_reckons (wsV RX11 188 RX11 yX11_inverse wsX11_inverse) := goodIn_app (goodIn_of _ (by decide +kernel)) ggX11_reckons_X11_inverse
set_option maxRecDepth 20000 in
theorem ggX11_reckons_X11_power : GoodIn wsX11_reckons wsX11_power := goodIn_r _ [29, 18, 19, 20, 11, 21, 13, 30, 31, 32, 33, 34, 35, 36, 37, 38, 39, 40, 41, 42, 43, 44, 45, 46, 47, 48, 49, 50, 51, 52, 53, 54, 55] (by decide +kernel) (by decide +kernel)
set_option maxRecDepth 20000 in
theorem gX11_reckons_X11_power : GoodIn wsX11_reckons (wsV RX11 191 RX11 yX11_power wsX11_power) := goodIn_app (goodIn_of _ (by decide +kernel)) ggX11_reckons_X11_power
theorem dX11_reckons_0 : decode cX11_reckons 0 = .ok (.aload_n 0, 1) := by decide +kernel
theorem dX11_reckons_1 : decode cX11_reckons 1 = .ok (.iload_n 1, 1) := by decide +kernel
theorem dX11_reckons_2 : decode cX11_reckons 2 = .ok (.iload_n 2, 1) := by decide +kernel
theorem dX11_reckons_3 : decode cX11_reckons 3 = .ok (.invokevirtual 159, 3) := by decide +kernel
theorem dX11_reckons_6 : decode cX11_reckons 6 = .ok (.istore_n 3, 1) := by decide +kernel
theorem dX11_reckons_7 : decode cX11_reckons 7 = .ok (.aload_n 0, 1) := by decide +kernel
theorem dX11_reckons_8 : decode cX11_reckons 8 = .ok (.iload_n 1, 1) := by decide +kernel
theorem dX11_reckons_9 : decode cX11_reckons 9 = .ok (.iload_n 2, 1) := by decide +kernel
theorem dX11_reckons_10 : decode cX11_reckons 10 = .ok (.invokevirtual 163, 3) := by decide +kernel
theorem dX11_reckons_13 : decode cX11_reckons 13 = .ok (.istore 4, 2) := by decide +kernel
theorem dX11_reckons_15 : decode cX11_reckons 15 = .ok (.aload_n 0, 1) := by decide +kernel
theorem dX11_reckons_16 : decode cX11_reckons 16 = .ok (.getfield 47, 3) := by decide +kernel
theorem dX11_reckons_19 : decode cX11_reckons 19 = .ok (.iload_n 2, 1) := by decide +kernel
theorem dX11_reckons_20 : decode cX11_reckons 20 = .ok (.iaload, 1) := by decide +kernel
theorem dX11_reckons_21 : decode cX11_reckons 21 = .ok (.iconst (-1), 1) := by decide +kernel
theorem dX11_reckons_22 : decode cX11_reckons 22 = .ok (.if_icmp .ne 7, 3) := by decide +kernel
theorem dX11_reckons_25 : decode cX11_reckons 25 = .ok (.iconst 0, 1) := by decide +kernel
theorem dX11_reckons_26 : decode cX11_reckons 26 = .ok (.goto 14, 3) := by decide +kernel
theorem dX11_reckons_29 : decode cX11_reckons 29 = .ok (.aload_n 0, 1) := by decide +kernel
theorem dX11_reckons_30 : decode cX11_reckons 30 = .ok (.getfield 41, 3) := by decide +kernel
theorem dX11_reckons_33 : decode cX11_reckons 33 = .ok (.aload_n 0, 1) := by decide +kernel
theorem dX11_reckons_34 : decode cX11_reckons 34 = .ok (.getfield 47, 3) := by decide +kernel
theorem dX11_reckons_37 : decode cX11_reckons 37 = .ok (.iload_n 2, 1) := by decide +kernel
theorem dX11_reckons_38 : decode cX11_reckons 38 = .ok (.iaload, 1) := by decide +kernel
theorem dX11_reckons_39 : decode cX11_reckons 39 = .ok (.iaload, 1) := by decide +kernel
theorem dX11_reckons_40 : decode cX11_reckons 40 = .ok (.istore 5, 2) := by decide +kernel
theorem dX11_reckons_42 : decode cX11_reckons 42 = .ok (.aload_n 0, 1) := by decide +kernel
theorem dX11_reckons_43 : decode cX11_reckons 43 = .ok (.getfield 47, 3) := by decide +kernel
theorem dX11_reckons_46 : decode cX11_reckons 46 = .ok (.iload_n 2, 1) := by decide +kernel
theorem dX11_reckons_47 : decode cX11_reckons 47 = .ok (.iaload, 1) := by decide +kernel
theorem dX11_reckons_48 : decode cX11_reckons 48 = .ok (.iconst (-1), 1) := by decide +kernel
theorem dX11_reckons_49 : decode cX11_reckons 49 = .ok (.if_icmp .ne 7, 3) := by decide +kernel
theorem dX11_reckons_52 : decode cX11_reckons 52 = .ok (.iconst 0, 1) := by decide +kernel
theorem dX11_reckons_53 : decode cX11_reckons 53 = .ok (.goto 14, 3) := by decide +kernel
theorem dX11_reckons_56 : decode cX11_reckons 56 = .ok (.aload_n 0, 1) := by decide +kernel
theorem dX11_reckons_57 : decode cX11_reckons 57 = .ok (.getfield 44, 3) := by decide +kernel
theorem dX11_reckons_60 : decode cX11_reckons 60 = .ok (.aload_n 0, 1) := by decide +kernel
theorem dX11_reckons_61 : decode cX11_reckons 61 = .ok (.getfield 47, 3) := by decide +kernel
theorem dX11_reckons_64 : decode cX11_reckons 64 = .ok (.iload_n 2, 1) := by decide +kernel
theorem dX11_reckons_65 : decode cX11_reckons 65 = .ok (.iaload, 1) := by decide +kernel
theorem dX11_reckons_66 : decode cX11_reckons 66 = .ok (.iaload, 1) := by decide +kernel
theorem dX11_reckons_67 : decode cX11_reckons 67 = .ok (.istore 6, 2) := by decide +kernel
theorem dX11_reckons_69 : decode cX11_reckons 69 = .ok (.aload_n 0, 1) := by decide +kernel
theorem dX11_reckons_70 : decode cX11_reckons 70 = .ok (.getfield 50, 3) := by decide +kernel
theorem dX11_reckons_73 : decode cX11_reckons 73 = .ok (.iload_n 2, 1) := by decide +kernel
theorem dX11_reckons_74 : decode cX11_reckons 74 = .ok (.iaload, 1) := by decide +kernel
theorem dX11_reckons_75 : decode cX11_reckons 75 = .ok (.iconst (-1), 1) := by decide +kernel
theorem dX11_reckons_76 : decode cX11_reckons 76 = .ok (.if_icmp .ne 7, 3) := by decide +kernel
theorem dX11_reckons_79 : decode cX11_reckons 79 = .ok (.iconst 0, 1) := by decide +kernel
theorem dX11_reckons_80 : decode cX11_reckons 80 = .ok (.goto 14, 3) := by decide +kernel
theorem dX11_reckons_83 : decode cX11_reckons 83 = .ok (.aload_n 0, 1) := by decide +kernel
theorem dX11_reckons_84 : decode cX11_reckons 84 = .ok (.getfield 41, 3) := by decide +kernel
theorem dX11_reckons_87 : decode cX11_reckons 87 = .ok (.aload_n 0, 1) := by decide +kernel
theorem dX11_reckons_88 : decode cX11_reckons 88 = .ok (.getfield 50, 3) := by decide +kernel
theorem dX11_reckons_91 : decode cX11_reckons 91 = .ok (.iload_n 2, 1) := by decide +kernel
theorem dX11_reckons_92 : decode cX11_reckons 92 = .ok (.iaload, 1) := by decide +kernel
theorem dX11_reckons_93 : decode cX11_reckons 93 = .ok (.iaload, 1) := by decide +kernel
theorem dX11_reckons_94 : decode cX11_reckons 94 = .ok (.istore 7, 2) := by decide +kernel
theorem dX11_reckons_96 : decode cX11_reckons 96 = .ok (.aload_n 0, 1) := by decide +kernel
theorem dX11_reckons_97 : decode cX11_reckons 97 = .ok (.getfield 50, 3) := by decide +kernel
theorem dX11_reckons_100 : decode cX11_reckons 100 = .ok (.iload_n 2, 1) := by decide +kernel
theorem dX11_reckons_101 : decode cX11_reckons 101 = .ok (.iaload, 1) := by decide +kernel
theorem dX11_reckons_102 : decode cX11_reckons 102 = .ok (.iconst (-1), 1) := by decide +kernel
theorem dX11_reckons_103 : decode cX11_reckons 103 = .ok (.if_icmp .ne 7, 3) := by decide +kernel
theorem dX11_reckons_106 : decode cX11_reckons 106 = .ok (.iconst 0, 1) := by decide +kernel
theorem dX11_reckons_107 : decode cX11_reckons 107 = .ok (.goto 14, 3) := by decide +kernel
theorem dX11_reckons_110 : decode cX11_reckons 110 = .ok (.aload_n 0, 1) := by decide +kernel
theorem dX11_reckons_111 : decode cX11_reckons 111 = .ok (.getfield 44, 3) := by decide +kernel
theorem dX11_reckons_114 : decode cX11_reckons 114 = .ok (.aload_n 0, 1) := by decide +kernel
theorem dX11_reckons_115 : decode cX11_reckons 115 = .ok (.getfield 50, 3) := by decide +kernel
theorem dX11_reckons_118 : decode cX11_reckons 118 = .ok (.iload_n 2, 1) := by decide +kernel
theorem dX11_reckons_119 : decode cX11_reckons 119 = .ok (.iaload, 1) := by decide +kernel
theorem dX11_reckons_120 : decode cX11_reckons 120 = .ok (.iaload, 1) := by decide +kernel
theorem dX11_reckons_121 : decode cX11_reckons 121 = .ok (.istore 8, 2) := by decide +kernel
theorem dX11_reckons_123 : decode cX11_reckons 123 = .ok (.iload_n 3, 1) := by decide +kernel
theorem dX11_reckons_124 : decode cX11_reckons 124 = .ok (.ifCond .ne 25, 3) := by decide +kernel
theorem dX11_reckons_127 : decode cX11_reckons 127 = .ok (.aload_n 0, 1) := by decide +kernel
theorem dX11_reckons_128 : decode cX11_reckons 128 = .ok (.getfield 41, 3) := by decide +kernel
theorem dX11_reckons_131 : decode cX11_reckons 131 = .ok (.iload_n 2, 1) := by decide +kernel
theorem dX11_reckons_132 : decode cX11_reckons 132 = .ok (.aload_n 0, 1) := by decide +kernel
theorem dX11_reckons_133 : decode cX11_reckons 133 = .ok (.iload 4, 2) := by decide +kernel
theorem dX11_reckons_135 : decode cX11_reckons 135 = .ok (.invokevirtual 182, 3) := by decide +kernel
theorem dX11_reckons_138 : decode cX11_reckons 138 = .ok (.iastore, 1) := by decide +kernel
theorem dX11_reckons_139 : decode cX11_reckons 139 = .ok (.aload_n 0, 1) := by decide +kernel
theorem dX11_reckons_140 : decode cX11_reckons 140 = .ok (.getfield 44, 3) := by decide +kernel
theorem dX11_reckons_143 : decode cX11_reckons 143 = .ok (.iload_n 2, 1) := by decide +kernel
theorem dX11_reckons_144 : decode cX11_reckons 144 = .ok (.iconst 0, 1) := by decide +kernel
theorem dX11_reckons_145 : decode cX11_reckons 145 = .ok (.iastore, 1) := by decide +kernel
theorem dX11_reckons_146 : decode cX11_reckons 146 = .ok (.goto 423, 3) := by decide +kernel
theorem dX11_reckons_149 : decode cX11_reckons 149 = .ok (.iload_n 3, 1) := by decide +kernel
theorem dX11_reckons_150 : decode cX11_reckons 150 = .ok (.iconst 2, 1) := by decide +kernel
theorem dX11_reckons_151 : decode cX11_reckons 151 = .ok (.if_icmp .ne 32, 3) := by decide +kernel
theorem dX11_reckons_154 : decode cX11_reckons 154 = .ok (.aload_n 0, 1) := by decide +kernel
theorem dX11_reckons_155 : decode cX11_reckons 155 = .ok (.getfield 41, 3) := by decide +kernel
theorem dX11_reckons_158 : decode cX11_reckons 158 = .ok (.iload_n 2, 1) := by decide +kernel
theorem dX11_reckons_159 : decode cX11_reckons 159 = .ok (.aload_n 0, 1) := by decide +kernel
theorem dX11_reckons_160 : decode cX11_reckons 160 = .ok (.iload 5, 2) := by decide +kernel
theorem dX11_reckons_162 : decode cX11_reckons 162 = .ok (.ineg, 1) := by decide +kernel
theorem dX11_reckons_163 : decode cX11_reckons 163 = .ok (.invokevirtual 182, 3) := by decide +kernel
theorem dX11_reckons_166 : decode cX11_reckons 166 = .ok (.iastore, 1) := by decide +kernel
theorem dX11_reckons_167 : decode cX11_reckons 167 = .ok (.aload_n 0, 1) := by decide +kernel
theorem dX11_reckons_168 : decode cX11_reckons 168 = .ok (.getfield 44, 3) := by decide +kernel
theorem dX11_reckons_171 : decode cX11_reckons 171 = .ok (.iload_n 2, 1) := by decide +kernel
theorem dX11_reckons_172 : decode cX11_reckons 172 = .ok (.aload_n 0, 1) := by decide +kernel
theorem dX11_reckons_173 : decode cX11_reckons 173 = .ok (.iload 6, 2) := by decide +kernel
theorem dX11_reckons_175 : decode cX11_reckons 175 = .ok (.ineg, 1) := by decide +kernel
theorem dX11_reckons_176 : decode cX11_reckons 176 = .ok (.invokevirtual 182, 3) := by decide +kernel
theorem dX11_reckons_179 : decode cX11_reckons 179 = .ok (.iastore, 1) := by decide +kernel
theorem dX11_reckons_180 : decode cX11_reckons 180 = .ok (.goto 389, 3) := by decide +kernel
theorem dX11_reckons_183 : decode cX11_reckons 183 = .ok (.iload_n 3, 1) := by decide +kernel
theorem dX11_reckons_184 : decode cX11_reckons 184 = .ok (.iconst 3, 1) := by decide +kernel
theorem dX11_reckons_185 : decode cX11_reckons 185 = .ok (.if_icmp .ne 36, 3) := by decide +kernel
theorem dX11_reckons_188 : decode cX11_reckons 188 = .ok (.aload_n 0, 1) := by decide +kernel
theorem dX11_reckons_189 : decode cX11_reckons 189 = .ok (.getfield 41, 3) := by decide +kernel
theorem dX11_reckons_192 : decode cX11_reckons 192 = .ok (.iload_n 2, 1) := by decide +kernel
theorem dX11_reckons_193 : decode cX11_reckons 193 = .ok (.aload_n 0, 1) := by decide +kernel
theorem dX11_reckons_194 : decode cX11_reckons 194 = .ok (.iload 5, 2) := by decide +kernel
theorem dX11_reckons_196 : decode cX11_reckons 196 = .ok (.iload 7, 2) := by decide +kernel
theorem dX11_reckons_198 : decode cX11_reckons 198 = .ok (.iadd, 1) := by decide +kernel
theorem dX11_reckons_199 : decode cX11_reckons 199 = .ok (.invokevirtual 182, 3) := by decide +kernel
theorem dX11_reckons_202 : decode cX11_reckons 202 = .ok (.iastore, 1) := by decide +kernel
theorem dX11_reckons_203 : decode cX11_reckons 203 = .ok (.aload_n 0, 1) := by decide +kernel
theorem dX11_reckons_204 : decode cX11_reckons 204 = .ok (.getfield 44, 3) := by decide +kernel
theorem dX11_reckons_207 : decode cX11_reckons 207 = .ok (.iload_n 2, 1) := by decide +kernel
theorem dX11_reckons_208 : decode cX11_reckons 208 = .ok (.aload_n 0, 1) := by decide +kernel
theorem dX11_reckons_209 : decode cX11_reckons 209 = .ok (.iload 6, 2) := by decide +kernel
theorem dX11_reckons_211 : decode cX11_reckons 211 = .ok (.iload 8, 2) := by decide +kernel
theorem dX11_reckons_213 : decode cX11_reckons 213 = .ok (.iadd, 1) := by decide +kernel
theorem dX11_reckons_214 : decode cX11_reckons 214 = .ok (.invokevirtual 182, 3) := by decide +kernel
theorem dX11_reckons_217 : decode cX11_reckons 217 = .ok (.iastore, 1) := by decide +kernel
theorem dX11_reckons_218 : decode cX11_reckons 218 = .ok (.goto 351, 3) := by decide +kernel
theorem dX11_reckons_221 : decode cX11_reckons 221 = .ok (.iload_n 3, 1) := by decide +kernel
theorem dX11_reckons_222 : decode cX11_reckons 222 = .ok (.iconst 4, 1) := by decide +kernel
theorem dX11_reckons_223 : decode cX11_reckons 223 = .ok (.if_icmp .ne 36, 3) := by decide +kernel
theorem dX11_reckons_226 : decode cX11_reckons 226 = .ok (.aload_n 0, 1) := by decide +kernel
theorem dX11_reckons_227 : decode cX11_reckons 227 = .ok (.getfield 41, 3) := by decide +kernel
theorem dX11_reckons_230 : decode cX11_reckons 230 = .ok (.iload_n 2, 1) := by decide +kernel
theorem dX11_reckons_231 : decode cX11_reckons 231 = .ok (.aload_n 0, 1) := by decide +kernel
theorem dX11_reckons_232 : decode cX11_reckons 232 = .ok (.iload 5, 2) := by decide +kernel
theorem dX11_reckons_234 : decode cX11_reckons 234 = .ok (.iload 7, 2) := by decide +kernel
theorem dX11_reckons_236 : decode cX11_reckons 236 = .ok (.isub, 1) := by decide +kernel
theorem dX11_reckons_237 : decode cX11_reckons 237 = .ok (.invokevirtual 182, 3) := by decide +kernel
theorem dX11_reckons_240 : decode cX11_reckons 240 = .ok (.iastore, 1) := by decide +kernel
theorem dX11_reckons_241 : decode cX11_reckons 241 = .ok (.aload_n 0, 1) := by decide +kernel
theorem dX11_reckons_242 : decode cX11_reckons 242 = .ok (.getfield 44, 3) := by decide +kernel
theorem dX11_reckons_245 : decode cX11_reckons 245 = .ok (.iload_n 2, 1) := by decide +kernel
theorem dX11_reckons_246 : decode cX11_reckons 246 = .ok (.aload_n 0, 1) := by decide +kernel
theorem dX11_reckons_247 : decode cX11_reckons 247 = .ok (.iload 6, 2) := by decide +kernel
theorem dX11_reckons_249 : decode cX11_reckons 249 = .ok (.iload 8, 2) := by decide +kernel
theorem dX11_reckons_251 : decode cX11_reckons 251 = .ok (.isub, 1) := by decide +kernel
theorem dX11_reckons_252 : decode cX11_reckons 252 = .ok (.invokevirtual 182, 3) := by decide +kernel
theorem dX11_reckons_255 : decode cX11_reckons 255 = .ok (.iastore, 1) := by decide +kernel
theorem dX11_reckons_256 : decode cX11_reckons 256 = .ok (.goto 313, 3) := by decide +kernel
theorem dX11_reckons_259 : decode cX11_reckons 259 = .ok (.iload_n 3, 1) := by decide +kernel
theorem dX11_reckons_260 : decode cX11_reckons 260 = .ok (.iconst 5, 1) := by decide +kernel
theorem dX11_reckons_261 : decode cX11_reckons 261 = .ok (.if_icmp .ne 42, 3) := by decide +kernel
theorem dX11_reckons_264 : decode cX11_reckons 264 = .ok (.aload_n 0, 1) := by decide +kernel
theorem dX11_reckons_265 : decode cX11_reckons 265 = .ok (.getfield 41, 3) := by decide +kernel
theorem dX11_reckons_268 : decode cX11_reckons 268 = .ok (.iload_n 2, 1) := by decide +kernel
theorem dX11_reckons_269 : decode cX11_reckons 269 = .ok (.aload_n 0, 1) := by decide +kernel
theorem dX11_reckons_270 : decode cX11_reckons 270 = .ok (.iload 5, 2) := by decide +kernel
theorem dX11_reckons_272 : decode cX11_reckons 272 = .ok (.iload 7, 2) := by decide +kernel
theorem dX11_reckons_274 : decode cX11_reckons 274 = .ok (.imul, 1) := by decide +kernel
theorem dX11_reckons_275 : decode cX11_reckons 275 = .ok (.invokevirtual 182, 3) := by decide +kernel
theorem dX11_reckons_278 : decode cX11_reckons 278 = .ok (.iastore, 1) := by decide +kernel
theorem dX11_reckons_279 : decode cX11_reckons 279 = .ok (.aload_n 0, 1) := by decide +kernel
theorem dX11_reckons_280 : decode cX11_reckons 280 = .ok (.getfield 44, 3) := by decide +kernel
theorem dX11_reckons_283 : decode cX11_reckons 283 = .ok (.iload_n 2, 1) := by decide +kernel
theorem dX11_reckons_284 : decode cX11_reckons 284 = .ok (.aload_n 0, 1) := by decide +kernel
theorem dX11_reckons_285 : decode cX11_reckons 285 = .ok (.iload 6, 2) := by decide +kernel
theorem dX11_reckons_287 : decode cX11_reckons 287 = .ok (.iload 7, 2) := by decide +kernel
theorem dX11_reckons_289 : decode cX11_reckons 289 = .ok (.imul, 1) := by decide +kernel
theorem dX11_reckons_290 : decode cX11_reckons 290 = .ok (.iload 5, 2) := by decide +kernel
theorem dX11_reckons_292 : decode cX11_reckons 292 = .ok (.iload 8, 2) := by decide +kernel
theorem dX11_reckons_294 : decode cX11_reckons 294 = .ok (.imul, 1) := by decide +kernel
theorem dX11_reckons_295 : decode cX11_reckons 295 = .ok (.iadd, 1) := by decide +kernel
theorem dX11_reckons_296 : decode cX11_reckons 296 = .ok (.invokevirtual 182, 3) := by decide +kernel
theorem dX11_reckons_299 : decode cX11_reckons 299 = .ok (.iastore, 1) := by decide +kernel
theorem dX11_reckons_300 : decode cX11_reckons 300 = .ok (.goto 269, 3) := by decide +kernel
theorem dX11_reckons_303 : decode cX11_reckons 303 = .ok (.iload_n 3, 1) := by decide +kernel
theorem dX11_reckons_304 : decode cX11_reckons 304 = .ok (.bipush 6, 2) := by decide +kernel
theorem dX11_reckons_306 : decode cX11_reckons 306 = .ok (.if_icmp .ne 94, 3) := by decide +kernel
theorem dX11_reckons_309 : decode cX11_reckons 309 = .ok (.aload_n 0, 1) := by decide +kernel
theorem dX11_reckons_310 : decode cX11_reckons 310 = .ok (.aload_n 0, 1) := by decide +kernel
theorem dX11_reckons_311 : decode cX11_reckons 311 = .ok (.getfield 185, 3) := by decide +kernel
theorem dX11_reckons_314 : decode cX11_reckons 314 = .ok (.ifCond .ne 8, 3) := by decide +kernel
theorem dX11_reckons_317 : decode cX11_reckons 317 = .ok (.iload 7, 2) := by decide +kernel
theorem dX11_reckons_319 : decode cX11_reckons 319 = .ok (.ifCond .ne 7, 3) := by decide +kernel
theorem dX11_reckons_322 : decode cX11_reckons 322 = .ok (.iconst 1, 1) := by decide +kernel
theorem dX11_reckons_323 : decode cX11_reckons 323 = .ok (.goto 4, 3) := by decide +kernel
theorem dX11_reckons_326 : decode cX11_reckons 326 = .ok (.iconst 0, 1) := by decide +kernel
theorem dX11_reckons_327 : decode cX11_reckons 327 = .ok (.putfield 185, 3) := by decide +kernel
theorem dX11_reckons_330 : decode cX11_reckons 330 = .ok (.iload 7, 2) := by decide +kernel
theorem dX11_reckons_332 : decode cX11_reckons 332 = .ok (.ifCond .ne 7, 3) := by decide +kernel
theorem dX11_reckons_335 : decode cX11_reckons 335 = .ok (.iconst 0, 1) := by decide +kernel
theorem dX11_reckons_336 : decode cX11_reckons 336 = .ok (.goto 9, 3) := by decide +kernel
theorem dX11_reckons_339 : decode cX11_reckons 339 = .ok (.aload_n 0, 1) := by decide +kernel
theorem dX11_reckons_340 : decode cX11_reckons 340 = .ok (.iload 7, 2) := by decide +kernel
theorem dX11_reckons_342 : decode cX11_reckons 342 = .ok (.invokevirtual 188, 3) := by decide +kernel
theorem dX11_reckons_345 : decode cX11_reckons 345 = .ok (.istore 9, 2) := by decide +kernel
theorem dX11_reckons_347 : decode cX11_reckons 347 = .ok (.aload_n 0, 1) := by decide +kernel
theorem dX11_reckons_348 : decode cX11_reckons 348 = .ok (.getfield 41, 3) := by decide +kernel
theorem dX11_reckons_351 : decode cX11_reckons 351 = .ok (.iload_n 2, 1) := by decide +kernel
theorem dX11_reckons_352 : decode cX11_reckons 352 = .ok (.aload_n 0, 1) := by decide +kernel
theorem dX11_reckons_353 : decode cX11_reckons 353 = .ok (.iload 5, 2) := by decide +kernel
theorem dX11_reckons_355 : decode cX11_reckons 355 = .ok (.iload 9, 2) := by decide +kernel
theorem dX11_reckons_357 : decode cX11_reckons 357 = .ok (.imul, 1) := by decide +kernel
theorem dX11_reckons_358 : decode cX11_reckons 358 = .ok (.invokevirtual 182, 3) := by decide +kernel
theorem dX11_reckons_361 : decode cX11_reckons 361 = .ok (.iastore, 1) := by decide +kernel
theorem dX11_reckons_362 : decode cX11_reckons 362 = .ok (.aload_n 0, 1) := by decide +kernel
theorem dX11_reckons_363 : decode cX11_reckons 363 = .ok (.getfield 44, 3) := by decide +kernel
theorem dX11_reckons_366 : decode cX11_reckons 366 = .ok (.iload_n 2, 1) := by decide +kernel
theorem dX11_reckons_367 : decode cX11_reckons 367 = .ok (.aload_n 0, 1) := by decide +kernel
theorem dX11_reckons_368 : decode cX11_reckons 368 = .ok (.aload_n 0, 1) := by decide +kernel
theorem dX11_reckons_369 : decode cX11_reckons 369 = .ok (.iload 6, 2) := by decide +kernel
theorem dX11_reckons_371 : decode cX11_reckons 371 = .ok (.iload 7, 2) := by decide +kernel
theorem dX11_reckons_373 : decode cX11_reckons 373 = .ok (.imul, 1) := by decide +kernel
theorem dX11_reckons_374 : decode cX11_reckons 374 = .ok (.iload 5, 2) := by decide +kernel
theorem dX11_reckons_376 : decode cX11_reckons 376 = .ok (.iload 8, 2) := by decide +kernel
theorem dX11_reckons_378 : decode cX11_reckons 378 = .ok (.imul, 1) := by decide +kernel
theorem dX11_reckons_379 : decode cX11_reckons 379 = .ok (.isub, 1) := by decide +kernel
theorem dX11_reckons_380 : decode cX11_reckons 380 = .ok (.invokevirtual 182, 3) := by decide +kernel
theorem dX11_reckons_383 : decode cX11_reckons 383 = .ok (.aload_n 0, 1) := by decide +kernel
theorem dX11_reckons_384 : decode cX11_reckons 384 = .ok (.iload 9, 2) := by decide +kernel
theorem dX11_reckons_386 : decode cX11_reckons 386 = .ok (.iload 9, 2) := by decide +kernel
theorem dX11_reckons_388 : decode cX11_reckons 388 = .ok (.imul, 1) := by decide +kernel
theorem dX11_reckons_389 : decode cX11_reckons 389 = .ok (.invokevirtual 182, 3) := by decide +kernel
theorem dX11_reckons_392 : decode cX11_reckons 392 = .ok (.imul, 1) := by decide +kernel
theorem dX11_reckons_393 : decode cX11_reckons 393 = .ok (.invokevirtual 182, 3) := by decide +kernel
theorem dX11_reckons_396 : decode cX11_reckons 396 = .ok (.iastore, 1) := by decide +kernel
theorem dX11_reckons_397 : decode cX11_reckons 397 = .ok (.goto 172, 3) := by decide +kernel
theorem dX11_reckons_400 : decode cX11_reckons 400 = .ok (.iload_n 3, 1) := by decide +kernel
theorem dX11_reckons_401 : decode cX11_reckons 401 = .ok (.bipush 7, 2) := by decide +kernel
theorem dX11_reckons_403 : decode cX11_reckons 403 = .ok (.if_icmp .ne 59, 3) := by decide +kernel
theorem dX11_reckons_406 : decode cX11_reckons 406 = .ok (.aload_n 0, 1) := by decide +kernel
theorem dX11_reckons_407 : decode cX11_reckons 407 = .ok (.getfield 41, 3) := by decide +kernel
theorem dX11_reckons_410 : decode cX11_reckons 410 = .ok (.iload_n 2, 1) := by decide +kernel
theorem dX11_reckons_411 : decode cX11_reckons 411 = .ok (.aload_n 0, 1) := by decide +kernel
theorem dX11_reckons_412 : decode cX11_reckons 412 = .ok (.iload 5, 2) := by decide +kernel
theorem dX11_reckons_414 : decode cX11_reckons 414 = .ok (.iload 4, 2) := by decide +kernel
theorem dX11_reckons_416 : decode cX11_reckons 416 = .ok (.invokevirtual 191, 3) := by decide +kernel
theorem dX11_reckons_419 : decode cX11_reckons 419 = .ok (.iastore, 1) := by decide +kernel
theorem dX11_reckons_420 : decode cX11_reckons 420 = .ok (.aload_n 0, 1) := by decide +kernel
theorem dX11_reckons_421 : decode cX11_reckons 421 = .ok (.getfield 44, 3) := by decide +kernel
theorem dX11_reckons_424 : decode cX11_reckons 424 = .ok (.iload_n 2, 1) := by decide +kernel
theorem dX11_reckons_425 : decode cX11_reckons 425 = .ok (.iload 4, 2) := by decide +kernel
theorem dX11_reckons_427 : decode cX11_reckons 427 = .ok (.ifCond .ne 7, 3) := by decide +kernel
theorem dX11_reckons_430 : decode cX11_reckons 430 = .ok (.iconst 0, 1) := by decide +kernel
theorem dX11_reckons_431 : decode cX11_reckons 431 = .ok (.goto 27, 3) := by decide +kernel
theorem dX11_reckons_434 : decode cX11_reckons 434 = .ok (.aload_n 0, 1) := by decide +kernel
theorem dX11_reckons_435 : decode cX11_reckons 435 = .ok (.aload_n 0, 1) := by decide +kernel
theorem dX11_reckons_436 : decode cX11_reckons 436 = .ok (.iload 4, 2) := by decide +kernel
theorem dX11_reckons_438 : decode cX11_reckons 438 = .ok (.aload_n 0, 1) := by decide +kernel
theorem dX11_reckons_439 : decode cX11_reckons 439 = .ok (.iload 5, 2) := by decide +kernel
theorem dX11_reckons_441 : decode cX11_reckons 441 = .ok (.iload 4, 2) := by decide +kernel
theorem dX11_reckons_443 : decode cX11_reckons 443 = .ok (.iconst 1, 1) := by decide +kernel
theorem dX11_reckons_444 : decode cX11_reckons 444 = .ok (.isub, 1) := by decide +kernel
theorem dX11_reckons_445 : decode cX11_reckons 445 = .ok (.invokevirtual 191, 3) := by decide +kernel
theorem dX11_reckons_448 : decode cX11_reckons 448 = .ok (.imul, 1) := by decide +kernel
theorem dX11_reckons_449 : decode cX11_reckons 449 = .ok (.invokevirtual 182, 3) := by decide +kernel
theorem dX11_reckons_452 : decode cX11_reckons 452 = .ok (.iload 6, 2) := by decide +kernel
theorem dX11_reckons_454 : decode cX11_reckons 454 = .ok (.imul, 1) := by decide +kernel
theorem dX11_reckons_455 : decode cX11_reckons 455 = .ok (.invokevirtual 182, 3) := by decide +kernel
theorem dX11_reckons_458 : decode cX11_reckons 458 = .ok (.iastore, 1) := by decide +kernel
theorem dX11_reckons_459 : decode cX11_reckons 459 = .ok (.goto 110, 3) := by decide +kernel
theorem dX11_reckons_462 : decode cX11_reckons 462 = .ok (.iload_n 3, 1) := by decide +kernel
theorem dX11_reckons_463 : decode cX11_reckons 463 = .ok (.bipush 8, 2) := by decide +kernel
theorem dX11_reckons_465 : decode cX11_reckons 465 = .ok (.if_icmp .ne 104, 3) := by decide +kernel
theorem dX11_reckons_468 : decode cX11_reckons 468 = .ok (.sipush 199, 3) := by decide +kernel
theorem dX11_reckons_471 : decode cX11_reckons 471 = .ok (.iload 4, 2) := by decide +kernel
theorem dX11_reckons_473 : decode cX11_reckons 473 = .ok (.imul, 1) := by decide +kernel
theorem dX11_reckons_474 : decode cX11_reckons 474 = .ok (.iload 5, 2) := by decide +kernel
theorem dX11_reckons_476 : decode cX11_reckons 476 = .ok (.iadd, 1) := by decide +kernel
theorem dX11_reckons_477 : decode cX11_reckons 477 = .ok (.istore 9, 2) := by decide +kernel
theorem dX11_reckons_479 : decode cX11_reckons 479 = .ok (.aload_n 0, 1) := by decide +kernel
theorem dX11_reckons_480 : decode cX11_reckons 480 = .ok (.aload_n 0, 1) := by decide +kernel
theorem dX11_reckons_481 : decode cX11_reckons 481 = .ok (.getfield 185, 3) := by decide +kernel
theorem dX11_reckons_484 : decode cX11_reckons 484 = .ok (.ifCond .ne 14, 3) := by decide +kernel
theorem dX11_reckons_487 : decode cX11_reckons 487 = .ok (.aload_n 0, 1) := by decide +kernel
theorem dX11_reckons_488 : decode cX11_reckons 488 = .ok (.getfield 32, 3) := by decide +kernel
theorem dX11_reckons_491 : decode cX11_reckons 491 = .ok (.iload 9, 2) := by decide +kernel
theorem dX11_reckons_493 : decode cX11_reckons 493 = .ok (.iaload, 1) := by decide +kernel
theorem dX11_reckons_494 : decode cX11_reckons 494 = .ok (.iconst (-1), 1) := by decide +kernel
theorem dX11_reckons_495 : decode cX11_reckons 495 = .ok (.if_icmp .ne 7, 3) := by decide +kernel
theorem dX11_reckons_498 : decode cX11_reckons 498 = .ok (.iconst 1, 1) := by decide +kernel
theorem dX11_reckons_499 : decode cX11_reckons 499 = .ok (.goto 4, 3) := by decide +kernel
theorem dX11_reckons_502 : decode cX11_reckons 502 = .ok (.iconst 0, 1) := by decide +kernel
theorem dX11_reckons_503 : decode cX11_reckons 503 = .ok (.putfield 185, 3) := by decide +kernel
theorem dX11_reckons_506 : decode cX11_reckons 506 = .ok (.aload_n 0, 1) := by decide +kernel
theorem dX11_reckons_507 : decode cX11_reckons 507 = .ok (.getfield 41, 3) := by decide +kernel
theorem dX11_reckons_510 : decode cX11_reckons 510 = .ok (.iload_n 2, 1) := by decide +kernel
theorem dX11_reckons_511 : decode cX11_reckons 511 = .ok (.aload_n 0, 1) := by decide +kernel
theorem dX11_reckons_512 : decode cX11_reckons 512 = .ok (.getfield 32, 3) := by decide +kernel
theorem dX11_reckons_515 : decode cX11_reckons 515 = .ok (.iload 9, 2) := by decide +kernel
theorem dX11_reckons_517 : decode cX11_reckons 517 = .ok (.iaload, 1) := by decide +kernel
theorem dX11_reckons_518 : decode cX11_reckons 518 = .ok (.iconst (-1), 1) := by decide +kernel
theorem dX11_reckons_519 : decode cX11_reckons 519 = .ok (.if_icmp .ne 7, 3) := by decide +kernel
theorem dX11_reckons_522 : decode cX11_reckons 522 = .ok (.iconst 0, 1) := by decide +kernel
theorem dX11_reckons_523 : decode cX11_reckons 523 = .ok (.goto 10, 3) := by decide +kernel
theorem dX11_reckons_526 : decode cX11_reckons 526 = .ok (.aload_n 0, 1) := by decide +kernel
theorem dX11_reckons_527 : decode cX11_reckons 527 = .ok (.getfield 32, 3) := by decide +kernel
theorem dX11_reckons_530 : decode cX11_reckons 530 = .ok (.iload 9, 2) := by decide +kernel
theorem dX11_reckons_532 : decode cX11_reckons 532 = .ok (.iaload, 1) := by decide +kernel
theorem dX11_reckons_533 : decode cX11_reckons 533 = .ok (.iastore, 1) := by decide +kernel
theorem dX11_reckons_534 : decode cX11_reckons 534 = .ok (.aload_n 0, 1) := by decide +kernel
theorem dX11_reckons_535 : decode cX11_reckons 535 = .ok (.getfield 44, 3) := by decide +kernel
theorem dX11_reckons_538 : decode cX11_reckons 538 = .ok (.iload_n 2, 1) := by decide +kernel
theorem dX11_reckons_539 : decode cX11_reckons 539 = .ok (.aload_n 0, 1) := by decide +kernel
theorem dX11_reckons_540 : decode cX11_reckons 540 = .ok (.getfield 32, 3) := by decide +kernel
theorem dX11_reckons_543 : decode cX11_reckons 543 = .ok (.iload 9, 2) := by decide +kernel
theorem dX11_reckons_545 : decode cX11_reckons 545 = .ok (.iaload, 1) := by decide +kernel
theorem dX11_reckons_546 : decode cX11_reckons 546 = .ok (.iconst (-1), 1) := by decide +kernel
theorem dX11_reckons_547 : decode cX11_reckons 547 = .ok (.if_icmp .ne 7, 3) := by decide +kernel
theorem dX11_reckons_550 : decode cX11_reckons 550 = .ok (.iconst 0, 1) := by decide +kernel
theorem dX11_reckons_551 : decode cX11_reckons 551 = .ok (.goto 17, 3) := by decide +kernel
theorem dX11_reckons_554 : decode cX11_reckons 554 = .ok (.aload_n 0, 1) := by decide +kernel
theorem dX11_reckons_555 : decode cX11_reckons 555 = .ok (.aload_n 0, 1) := by decide +kernel
theorem dX11_reckons_556 : decode cX11_reckons 556 = .ok (.getfield 35, 3) := by decide +kernel
theorem dX11_reckons_559 : decode cX11_reckons 559 = .ok (.iload 9, 2) := by decide +kernel
theorem dX11_reckons_561 : decode cX11_reckons 561 = .ok (.iaload, 1) := by decide +kernel
theorem dX11_reckons_562 : decode cX11_reckons 562 = .ok (.iload 6, 2) := by decide +kernel
theorem dX11_reckons_564 : decode cX11_reckons 564 = .ok (.imul, 1) := by decide +kernel
theorem dX11_reckons_565 : decode cX11_reckons 565 = .ok (.invokevirtual 182, 3) := by decide +kernel
theorem dX11_reckons_568 : decode cX11_reckons 568 = .ok (.iastore, 1) := by decide +kernel
theorem dX11_reckons_569 : decode cX11_reckons 569 = .ok (.return_, 1) := by decide +kernel
set_option maxRecDepth 20000 in
theorem ggX11_feeds_X11_links : GoodIn wsX11_feeds wsX11_links := goodIn_r _ [8, 9, 10, 11, 12, 13, 14, 7, 15, 16, 17, 18, 19, 20, 43, 44, 45, 46, 47, 48, 49, 50, 51, 52, 53, 54, 55, 56, 57, 58, 59, 60, 61, 62, 63, 64, 65, 66, 67, 68] (by decide +kernel) (by decide +kernel)
set_option maxRecDepth 20000 in
theorem gX11_feeds_X11_links : GoodIn wsX11_feeds (wsV RX11 173 RX11 yX11_links wsX11_links) := goodIn_app (goodIn_of _ (by decide +kernel)) ggX11_feeds_X11_links
set_option maxRecDepth 20000 in
theorem ggX11_feeds_X11_size : GoodIn wsX11_feeds wsX11_size := goodIn_r _ [15, 16, 43, 44, 45, 46, 47, 48, 49, 50, 51, 52, 53, 54, 55, 56, 57, 58, 59, 60, 61, 62, 63, 64, 65, 66, 67, 68] (by decide +kernel) (by decide +kernel)
set_option maxRecDepth 20000 in
theorem gX11_feeds_X11_size : GoodIn wsX11_feeds (wsV RX11 156 RX11 yX11_size wsX11_size) := goodIn_app (goodIn_of _ (by decide +kernel)) ggX11_feeds_X11_size
set_option maxRecDepth 20000 in
theorem ggX11_feeds_X11_kind : GoodIn wsX11_feeds wsX11_kind := goodIn_r _ [20, 16, 43, 44, 45, 46, 47, 48, 49, 50, 51, 52, 53, 54, 55, 56, 57, 58, 59, 60, 61, 62, 63, 64, 65, 66, 67, 68] (by decide +kernel) (by decide +kernel)
set_option maxRecDepth 20000 in
theorem gX11_feeds_X11_kind : GoodIn wsX11_feeds (wsV RX11 159 RX11 yX11_kind wsX11_kind) := goodIn_app (goodIn_of _ (by decide +kernel)) ggX11_feeds_X11_kind
set_option maxRecDepth 20000 in
theorem ggX11_feeds_X11_reckons : GoodIn wsX11_feeds wsX11_reckons := goodIn_r _ [24, 11, 2, 3, 9, 1, 25, 26, 17, 18, 19, 7, 20, 16, 27, 28, 29, 30, 31, 32, 33, 34, 35, 36, 37, 38, 39, 40, 41, 42, 43, 44, 45, 46, 47, 48, 49, 50, 51, 52, 53, 54, 55, 56, 57, 58, 59, 60, 61, 62, 63, 64, 65, 66, 67, 68] (by decide +kernel) (by decide +kernel)
set_option maxRecDepth 20000 in
theorem gX11_feeds_X11_reckons : GoodIn wsX11_feeds (wsV RX11 194 RX11 yX11_reckons wsX11_reckons) := goodIn_app (goodIn_of _ (by decide +kernel)) ggX11_feeds_X11_reckons
theorem dX11_feeds_0 : decode cX11_feeds 0 = .ok (.aload_n 0, 1) := by decide +kernel
theorem dX11_feeds_1 : decode cX11_feeds 1 = .ok (.iload_n 1, 1) := by decide +kernel
theorem dX11_feeds_2 : decode cX11_feeds 2 = .ok (.invokevirtual 173, 3) := by decide +kernel
theorem dX11_feeds_5 : decode cX11_feeds 5 = .ok (.aload_n 0, 1) := by decide +kernel
theorem dX11_feeds_6 : decode cX11_feeds 6 = .ok (.iconst 0, 1) := by decide +kernel
theorem dX11_feeds_7 : decode cX11_feeds 7 = .ok (.putfield 185, 3) := by decide +kernel
theorem dX11_feeds_10 : decode cX11_feeds 10 = .ok (.iconst 0, 1) := by decide +kernel
theorem dX11_feeds_11 : decode cX11_feeds 11 = .ok (.istore 4, 2) := by decide +kernel
theorem dX11_feeds_13 : decode cX11_feeds 13 = .ok (.iload 4, 2) := by decide +kernel
theorem dX11_feeds_15 : decode cX11_feeds 15 = .ok (.aload_n 0, 1) := by decide +kernel
theorem dX11_feeds_16 : decode cX11_feeds 16 = .ok (.iload_n 1, 1) := by decide +kernel
theorem dX11_feeds_17 : decode cX11_feeds 17 = .ok (.invokevirtual 156, 3) := by decide +kernel
theorem dX11_feeds_20 : decode cX11_feeds 20 = .ok (.if_icmp .ge 46, 3) := by decide +kernel
theorem dX11_feeds_23 : decode cX11_feeds 23 = .ok (.aload_n 0, 1) := by decide +kernel
theorem dX11_feeds_24 : decode cX11_feeds 24 = .ok (.iload_n 1, 1) := by decide +kernel
theorem dX11_feeds_25 : decode cX11_feeds 25 = .ok (.iload 4, 2) := by decide +kernel
theorem dX11_feeds_27 : decode cX11_feeds 27 = .ok (.invokevirtual 159, 3) := by decide +kernel
theorem dX11_feeds_30 : decode cX11_feeds 30 = .ok (.iconst 1, 1) := by decide +kernel
theorem dX11_feeds_31 : decode cX11_feeds 31 = .ok (.if_icmp .ne 22, 3) := by decide +kernel
theorem dX11_feeds_34 : decode cX11_feeds 34 = .ok (.aload_n 0, 1) := by decide +kernel
theorem dX11_feeds_35 : decode cX11_feeds 35 = .ok (.getfield 41, 3) := by decide +kernel
theorem dX11_feeds_38 : decode cX11_feeds 38 = .ok (.iload 4, 2) := by decide +kernel
theorem dX11_feeds_40 : decode cX11_feeds 40 = .ok (.iload_n 2, 1) := by decide +kernel
theorem dX11_feeds_41 : decode cX11_feeds 41 = .ok (.iastore, 1) := by decide +kernel
theorem dX11_feeds_42 : decode cX11_feeds 42 = .ok (.aload_n 0, 1) := by decide +kernel
theorem dX11_feeds_43 : decode cX11_feeds 43 = .ok (.getfield 44, 3) := by decide +kernel
theorem dX11_feeds_46 : decode cX11_feeds 46 = .ok (.iload 4, 2) := by decide +kernel
theorem dX11_feeds_48 : decode cX11_feeds 48 = .ok (.iload_n 3, 1) := by decide +kernel
theorem dX11_feeds_49 : decode cX11_feeds 49 = .ok (.iastore, 1) := by decide +kernel
theorem dX11_feeds_50 : decode cX11_feeds 50 = .ok (.goto 10, 3) := by decide +kernel
theorem dX11_feeds_53 : decode cX11_feeds 53 = .ok (.aload_n 0, 1) := by decide +kernel
theorem dX11_feeds_54 : decode cX11_feeds 54 = .ok (.iload_n 1, 1) := by decide +kernel
theorem dX11_feeds_55 : decode cX11_feeds 55 = .ok (.iload 4, 2) := by decide +kernel
theorem dX11_feeds_57 : decode cX11_feeds 57 = .ok (.invokevirtual 194, 3) := by decide +kernel
theorem dX11_feeds_60 : decode cX11_feeds 60 = .ok (.iinc 4 1, 3) := by decide +kernel
theorem dX11_feeds_63 : decode cX11_feeds 63 = .ok (.goto (-50), 3) := by decide +kernel
theorem dX11_feeds_66 : decode cX11_feeds 66 = .ok (.return_, 1) := by decide +kernel
set_option maxRecDepth 20000 in
theorem ggX11_shares_X11_kind : GoodIn wsX11_shares wsX11_kind := goodIn_r _ [10, 11, 28, 29, 30, 31, 32, 33, 34, 35, 36, 37, 38, 39, 40, 41, 42, 43, 44, 45, 46, 47, 48, 49, 50, 51, 52, 53] (by decide +kernel) (by decide +kernel)
set_option maxRecDepth 20000 in
theorem gX11_shares_X11_kind : GoodIn wsX11_shares (wsV RX11 159 RX11 yX11_kind wsX11_kind) := goodIn_app (goodIn_of _ (by decide +kernel)) ggX11_shares_X11_kind
set_option maxRecDepth 20000 in
theorem ggX11_shares_X11_number : GoodIn wsX11_shares wsX11_number := goodIn_r _ [15, 11, 28, 29, 30, 31, 32, 33, 34, 35, 36, 37, 38, 39, 40, 41, 42, 43, 44, 45, 46, 47, 48, 49, 50, 51, 52, 53] (by decide +kernel) (by decide +kernel)
set_option maxRecDepth 20000 in
theorem gX11_shares_X11_number : GoodIn wsX11_shares (wsV RX11 163 RX11 yX11_number wsX11_number) := goodIn_app (goodIn_of _ (by decide +kernel)) ggX11_shares_X11_number
set_option maxRecDepth 20000 in
theorem ggX11_shares_X11_p : GoodIn wsX11_shares wsX11_p := goodIn_r _ [19, 11, 28, 29, 30, 31, 32, 33, 34, 35, 36, 37, 38, 39, 40, 41, 42, 43, 44, 45, 46, 47, 48, 49, 50, 51, 52, 53] (by decide +kernel) (by decide +kernel)
set_option maxRecDepth 20000 in
theorem gX11_shares_X11_p : GoodIn wsX11_shares (wsV RX11 182 RX11 yX11_p wsX11_p) := goodIn_app (goodIn_of _ (by decide +kernel)) ggX11_shares_X11_p
set_option maxRecDepth 20000 in
theorem ggX11_shares_X11_inverse : GoodIn wsX11_shares wsX11_inverse := goodIn_r _ [23, 16, 17, 18, 9, 19, 11, 28, 29, 30, 31, 32, 33, 34, 35, 36, 37, 38, 39, 40, 41, 42, 43, 44, 45, 46, 47, 48, 49, 50, 51, 52, 53] (by decide +kernel) (by decide +kernel)
set_option maxRecDepth 20000 in
theorem gX11_shares_X11_inverse : GoodIn wsX11_shares (wsV RX11 188 RX11 yX11_inverse wsX11_inverse) := goodIn_app (goodIn_of _ (by decide +kernel)) ggX11_shares_X11_inverse
set_option maxRecDepth 20000 in
theorem ggX11_shares_X11_power : GoodIn wsX11_shares wsX11_power := goodIn_r _ [27, 16, 17, 18, 9, 19, 11, 28, 29, 30, 31, 32, 33, 34, 35, 36, 37, 38, 39, 40, 41, 42, 43, 44, 45, 46, 47, 48, 49, 50, 51, 52, 53] (by decide +kernel) (by decide +kernel)
set_option maxRecDepth 20000 in
theorem gX11_shares_X11_power : GoodIn wsX11_shares (wsV RX11 191 RX11 yX11_power wsX11_power) := goodIn_app (goodIn_of _ (by decide +kernel)) ggX11_shares_X11_power
theorem dX11_shares_0 : decode cX11_shares 0 = .ok (.aload_n 0, 1) := by decide +kernel
theorem dX11_shares_1 : decode cX11_shares 1 = .ok (.iload_n 1, 1) := by decide +kernel
theorem dX11_shares_2 : decode cX11_shares 2 = .ok (.iload_n 2, 1) := by decide +kernel
theorem dX11_shares_3 : decode cX11_shares 3 = .ok (.invokevirtual 159, 3) := by decide +kernel
theorem dX11_shares_6 : decode cX11_shares 6 = .ok (.istore_n 3, 1) := by decide +kernel
theorem dX11_shares_7 : decode cX11_shares 7 = .ok (.aload_n 0, 1) := by decide +kernel
theorem dX11_shares_8 : decode cX11_shares 8 = .ok (.iload_n 1, 1) := by decide +kernel
theorem dX11_shares_9 : decode cX11_shares 9 = .ok (.iload_n 2, 1) := by decide +kernel
theorem dX11_shares_10 : decode cX11_shares 10 = .ok (.invokevirtual 163, 3) := by decide +kernel
theorem dX11_shares_13 : decode cX11_shares 13 = .ok (.istore 4, 2) := by decide +kernel
theorem dX11_shares_15 : decode cX11_shares 15 = .ok (.aload_n 0, 1) := by decide +kernel
theorem dX11_shares_16 : decode cX11_shares 16 = .ok (.getfield 53, 3) := by decide +kernel
theorem dX11_shares_19 : decode cX11_shares 19 = .ok (.iload_n 2, 1) := by decide +kernel
theorem dX11_shares_20 : decode cX11_shares 20 = .ok (.iaload, 1) := by decide +kernel
theorem dX11_shares_21 : decode cX11_shares 21 = .ok (.istore 5, 2) := by decide +kernel
theorem dX11_shares_23 : decode cX11_shares 23 = .ok (.aload_n 0, 1) := by decide +kernel
theorem dX11_shares_24 : decode cX11_shares 24 = .ok (.getfield 47, 3) := by decide +kernel
theorem dX11_shares_27 : decode cX11_shares 27 = .ok (.iload_n 2, 1) := by decide +kernel
theorem dX11_shares_28 : decode cX11_shares 28 = .ok (.iaload, 1) := by decide +kernel
theorem dX11_shares_29 : decode cX11_shares 29 = .ok (.istore 6, 2) := by decide +kernel
theorem dX11_shares_31 : decode cX11_shares 31 = .ok (.aload_n 0, 1) := by decide +kernel
theorem dX11_shares_32 : decode cX11_shares 32 = .ok (.getfield 50, 3) := by decide +kernel
theorem dX11_shares_35 : decode cX11_shares 35 = .ok (.iload_n 2, 1) := by decide +kernel
theorem dX11_shares_36 : decode cX11_shares 36 = .ok (.iaload, 1) := by decide +kernel
theorem dX11_shares_37 : decode cX11_shares 37 = .ok (.istore 7, 2) := by decide +kernel
theorem dX11_shares_39 : decode cX11_shares 39 = .ok (.iload_n 3, 1) := by decide +kernel
theorem dX11_shares_40 : decode cX11_shares 40 = .ok (.iconst 2, 1) := by decide +kernel
theorem dX11_shares_41 : decode cX11_shares 41 = .ok (.if_icmp .ne 27, 3) := by decide +kernel
theorem dX11_shares_44 : decode cX11_shares 44 = .ok (.aload_n 0, 1) := by decide +kernel
theorem dX11_shares_45 : decode cX11_shares 45 = .ok (.getfield 53, 3) := by decide +kernel
theorem dX11_shares_48 : decode cX11_shares 48 = .ok (.iload 6, 2) := by decide +kernel
theorem dX11_shares_50 : decode cX11_shares 50 = .ok (.aload_n 0, 1) := by decide +kernel
theorem dX11_shares_51 : decode cX11_shares 51 = .ok (.aload_n 0, 1) := by decide +kernel
theorem dX11_shares_52 : decode cX11_shares 52 = .ok (.getfield 53, 3) := by decide +kernel
theorem dX11_shares_55 : decode cX11_shares 55 = .ok (.iload 6, 2) := by decide +kernel
theorem dX11_shares_57 : decode cX11_shares 57 = .ok (.iaload, 1) := by decide +kernel
theorem dX11_shares_58 : decode cX11_shares 58 = .ok (.iload 5, 2) := by decide +kernel
theorem dX11_shares_60 : decode cX11_shares 60 = .ok (.isub, 1) := by decide +kernel
theorem dX11_shares_61 : decode cX11_shares 61 = .ok (.invokevirtual 182, 3) := by decide +kernel
theorem dX11_shares_64 : decode cX11_shares 64 = .ok (.iastore, 1) := by decide +kernel
theorem dX11_shares_65 : decode cX11_shares 65 = .ok (.goto 329, 3) := by decide +kernel
theorem dX11_shares_68 : decode cX11_shares 68 = .ok (.iload_n 3, 1) := by decide +kernel
theorem dX11_shares_69 : decode cX11_shares 69 = .ok (.iconst 3, 1) := by decide +kernel
theorem dX11_shares_70 : decode cX11_shares 70 = .ok (.if_icmp .eq 8, 3) := by decide +kernel
theorem dX11_shares_73 : decode cX11_shares 73 = .ok (.iload_n 3, 1) := by decide +kernel
theorem dX11_shares_74 : decode cX11_shares 74 = .ok (.iconst 4, 1) := by decide +kernel
theorem dX11_shares_75 : decode cX11_shares 75 = .ok (.if_icmp .ne 59, 3) := by decide +kernel
theorem dX11_shares_78 : decode cX11_shares 78 = .ok (.aload_n 0, 1) := by decide +kernel
theorem dX11_shares_79 : decode cX11_shares 79 = .ok (.getfield 53, 3) := by decide +kernel
theorem dX11_shares_82 : decode cX11_shares 82 = .ok (.iload 6, 2) := by decide +kernel
theorem dX11_shares_84 : decode cX11_shares 84 = .ok (.aload_n 0, 1) := by decide +kernel
theorem dX11_shares_85 : decode cX11_shares 85 = .ok (.aload_n 0, 1) := by decide +kernel
theorem dX11_shares_86 : decode cX11_shares 86 = .ok (.getfield 53, 3) := by decide +kernel
theorem dX11_shares_89 : decode cX11_shares 89 = .ok (.iload 6, 2) := by decide +kernel
theorem dX11_shares_91 : decode cX11_shares 91 = .ok (.iaload, 1) := by decide +kernel
theorem dX11_shares_92 : decode cX11_shares 92 = .ok (.iload 5, 2) := by decide +kernel
theorem dX11_shares_94 : decode cX11_shares 94 = .ok (.iadd, 1) := by decide +kernel
theorem dX11_shares_95 : decode cX11_shares 95 = .ok (.invokevirtual 182, 3) := by decide +kernel
theorem dX11_shares_98 : decode cX11_shares 98 = .ok (.iastore, 1) := by decide +kernel
theorem dX11_shares_99 : decode cX11_shares 99 = .ok (.aload_n 0, 1) := by decide +kernel
theorem dX11_shares_100 : decode cX11_shares 100 = .ok (.getfield 53, 3) := by decide +kernel
theorem dX11_shares_103 : decode cX11_shares 103 = .ok (.iload 7, 2) := by decide +kernel
theorem dX11_shares_105 : decode cX11_shares 105 = .ok (.aload_n 0, 1) := by decide +kernel
theorem dX11_shares_106 : decode cX11_shares 106 = .ok (.aload_n 0, 1) := by decide +kernel
theorem dX11_shares_107 : decode cX11_shares 107 = .ok (.getfield 53, 3) := by decide +kernel
theorem dX11_shares_110 : decode cX11_shares 110 = .ok (.iload 7, 2) := by decide +kernel
theorem dX11_shares_112 : decode cX11_shares 112 = .ok (.iaload, 1) := by decide +kernel
theorem dX11_shares_113 : decode cX11_shares 113 = .ok (.iload_n 3, 1) := by decide +kernel
theorem dX11_shares_114 : decode cX11_shares 114 = .ok (.iconst 3, 1) := by decide +kernel
theorem dX11_shares_115 : decode cX11_shares 115 = .ok (.if_icmp .ne 8, 3) := by decide +kernel
theorem dX11_shares_118 : decode cX11_shares 118 = .ok (.iload 5, 2) := by decide +kernel
theorem dX11_shares_120 : decode cX11_shares 120 = .ok (.goto 6, 3) := by decide +kernel
theorem dX11_shares_123 : decode cX11_shares 123 = .ok (.iload 5, 2) := by decide +kernel
theorem dX11_shares_125 : decode cX11_shares 125 = .ok (.ineg, 1) := by decide +kernel
theorem dX11_shares_126 : decode cX11_shares 126 = .ok (.iadd, 1) := by decide +kernel
theorem dX11_shares_127 : decode cX11_shares 127 = .ok (.invokevirtual 182, 3) := by decide +kernel
theorem dX11_shares_130 : decode cX11_shares 130 = .ok (.iastore, 1) := by decide +kernel
theorem dX11_shares_131 : decode cX11_shares 131 = .ok (.goto 263, 3) := by decide +kernel
theorem dX11_shares_134 : decode cX11_shares 134 = .ok (.iload_n 3, 1) := by decide +kernel
theorem dX11_shares_135 : decode cX11_shares 135 = .ok (.iconst 5, 1) := by decide +kernel
theorem dX11_shares_136 : decode cX11_shares 136 = .ok (.if_icmp .ne 64, 3) := by decide +kernel
theorem dX11_shares_139 : decode cX11_shares 139 = .ok (.aload_n 0, 1) := by decide +kernel
theorem dX11_shares_140 : decode cX11_shares 140 = .ok (.getfield 53, 3) := by decide +kernel
theorem dX11_shares_143 : decode cX11_shares 143 = .ok (.iload 6, 2) := by decide +kernel
theorem dX11_shares_145 : decode cX11_shares 145 = .ok (.aload_n 0, 1) := by decide +kernel
theorem dX11_shares_146 : decode cX11_shares 146 = .ok (.aload_n 0, 1) := by decide +kernel
theorem dX11_shares_147 : decode cX11_shares 147 = .ok (.getfield 53, 3) := by decide +kernel
theorem dX11_shares_150 : decode cX11_shares 150 = .ok (.iload 6, 2) := by decide +kernel
theorem dX11_shares_152 : decode cX11_shares 152 = .ok (.iaload, 1) := by decide +kernel
theorem dX11_shares_153 : decode cX11_shares 153 = .ok (.iload 5, 2) := by decide +kernel
theorem dX11_shares_155 : decode cX11_shares 155 = .ok (.aload_n 0, 1) := by decide +kernel
theorem dX11_shares_156 : decode cX11_shares 156 = .ok (.getfield 41, 3) := by decide +kernel
theorem dX11_shares_159 : decode cX11_shares 159 = .ok (.iload 7, 2) := by decide +kernel
theorem dX11_shares_161 : decode cX11_shares 161 = .ok (.iaload, 1) := by decide +kernel
theorem dX11_shares_162 : decode cX11_shares 162 = .ok (.imul, 1) := by decide +kernel
theorem dX11_shares_163 : decode cX11_shares 163 = .ok (.iadd, 1) := by decide +kernel
theorem dX11_shares_164 : decode cX11_shares 164 = .ok (.invokevirtual 182, 3) := by decide +kernel
theorem dX11_shares_167 : decode cX11_shares 167 = .ok (.iastore, 1) := by decide +kernel
theorem dX11_shares_168 : decode cX11_shares 168 = .ok (.aload_n 0, 1) := by decide +kernel
theorem dX11_shares_169 : decode cX11_shares 169 = .ok (.getfield 53, 3) := by decide +kernel
theorem dX11_shares_172 : decode cX11_shares 172 = .ok (.iload 7, 2) := by decide +kernel
theorem dX11_shares_174 : decode cX11_shares 174 = .ok (.aload_n 0, 1) := by decide +kernel
theorem dX11_shares_175 : decode cX11_shares 175 = .ok (.aload_n 0, 1) := by decide +kernel
theorem dX11_shares_176 : decode cX11_shares 176 = .ok (.getfield 53, 3) := by decide +kernel
theorem dX11_shares_179 : decode cX11_shares 179 = .ok (.iload 7, 2) := by decide +kernel
theorem dX11_shares_181 : decode cX11_shares 181 = .ok (.iaload, 1) := by decide +kernel
theorem dX11_shares_182 : decode cX11_shares 182 = .ok (.iload 5, 2) := by decide +kernel
theorem dX11_shares_184 : decode cX11_shares 184 = .ok (.aload_n 0, 1) := by decide +kernel
theorem dX11_shares_185 : decode cX11_shares 185 = .ok (.getfield 41, 3) := by decide +kernel
theorem dX11_shares_188 : decode cX11_shares 188 = .ok (.iload 6, 2) := by decide +kernel
theorem dX11_shares_190 : decode cX11_shares 190 = .ok (.iaload, 1) := by decide +kernel
theorem dX11_shares_191 : decode cX11_shares 191 = .ok (.imul, 1) := by decide +kernel
theorem dX11_shares_192 : decode cX11_shares 192 = .ok (.iadd, 1) := by decide +kernel
theorem dX11_shares_193 : decode cX11_shares 193 = .ok (.invokevirtual 182, 3) := by decide +kernel
theorem dX11_shares_196 : decode cX11_shares 196 = .ok (.iastore, 1) := by decide +kernel
theorem dX11_shares_197 : decode cX11_shares 197 = .ok (.goto 197, 3) := by decide +kernel
theorem dX11_shares_200 : decode cX11_shares 200 = .ok (.iload_n 3, 1) := by decide +kernel
theorem dX11_shares_201 : decode cX11_shares 201 = .ok (.bipush 6, 2) := by decide +kernel
theorem dX11_shares_203 : decode cX11_shares 203 = .ok (.if_icmp .ne 86, 3) := by decide +kernel
theorem dX11_shares_206 : decode cX11_shares 206 = .ok (.aload_n 0, 1) := by decide +kernel
theorem dX11_shares_207 : decode cX11_shares 207 = .ok (.aload_n 0, 1) := by decide +kernel
theorem dX11_shares_208 : decode cX11_shares 208 = .ok (.getfield 41, 3) := by decide +kernel
theorem dX11_shares_211 : decode cX11_shares 211 = .ok (.iload 7, 2) := by decide +kernel
theorem dX11_shares_213 : decode cX11_shares 213 = .ok (.iaload, 1) := by decide +kernel
theorem dX11_shares_214 : decode cX11_shares 214 = .ok (.invokevirtual 188, 3) := by decide +kernel
theorem dX11_shares_217 : decode cX11_shares 217 = .ok (.istore 8, 2) := by decide +kernel
theorem dX11_shares_219 : decode cX11_shares 219 = .ok (.aload_n 0, 1) := by decide +kernel
theorem dX11_shares_220 : decode cX11_shares 220 = .ok (.getfield 53, 3) := by decide +kernel
theorem dX11_shares_223 : decode cX11_shares 223 = .ok (.iload 6, 2) := by decide +kernel
theorem dX11_shares_225 : decode cX11_shares 225 = .ok (.aload_n 0, 1) := by decide +kernel
theorem dX11_shares_226 : decode cX11_shares 226 = .ok (.aload_n 0, 1) := by decide +kernel
theorem dX11_shares_227 : decode cX11_shares 227 = .ok (.getfield 53, 3) := by decide +kernel
theorem dX11_shares_230 : decode cX11_shares 230 = .ok (.iload 6, 2) := by decide +kernel
theorem dX11_shares_232 : decode cX11_shares 232 = .ok (.iaload, 1) := by decide +kernel
theorem dX11_shares_233 : decode cX11_shares 233 = .ok (.iload 5, 2) := by decide +kernel
theorem dX11_shares_235 : decode cX11_shares 235 = .ok (.iload 8, 2) := by decide +kernel
theorem dX11_shares_237 : decode cX11_shares 237 = .ok (.imul, 1) := by decide +kernel
theorem dX11_shares_238 : decode cX11_shares 238 = .ok (.iadd, 1) := by decide +kernel
theorem dX11_shares_239 : decode cX11_shares 239 = .ok (.invokevirtual 182, 3) := by decide +kernel
theorem dX11_shares_242 : decode cX11_shares 242 = .ok (.iastore, 1) := by decide +kernel
theorem dX11_shares_243 : decode cX11_shares 243 = .ok (.aload_n 0, 1) := by decide +kernel
theorem dX11_shares_244 : decode cX11_shares 244 = .ok (.getfield 53, 3) := by decide +kernel
theorem dX11_shares_247 : decode cX11_shares 247 = .ok (.iload 7, 2) := by decide +kernel
theorem dX11_shares_249 : decode cX11_shares 249 = .ok (.aload_n 0, 1) := by decide +kernel
theorem dX11_shares_250 : decode cX11_shares 250 = .ok (.aload_n 0, 1) := by decide +kernel
theorem dX11_shares_251 : decode cX11_shares 251 = .ok (.getfield 53, 3) := by decide +kernel
theorem dX11_shares_254 : decode cX11_shares 254 = .ok (.iload 7, 2) := by decide +kernel
theorem dX11_shares_256 : decode cX11_shares 256 = .ok (.iaload, 1) := by decide +kernel
theorem dX11_shares_257 : decode cX11_shares 257 = .ok (.aload_n 0, 1) := by decide +kernel
theorem dX11_shares_258 : decode cX11_shares 258 = .ok (.iload 5, 2) := by decide +kernel
theorem dX11_shares_260 : decode cX11_shares 260 = .ok (.aload_n 0, 1) := by decide +kernel
theorem dX11_shares_261 : decode cX11_shares 261 = .ok (.getfield 41, 3) := by decide +kernel
theorem dX11_shares_264 : decode cX11_shares 264 = .ok (.iload 6, 2) := by decide +kernel
theorem dX11_shares_266 : decode cX11_shares 266 = .ok (.iaload, 1) := by decide +kernel
theorem dX11_shares_267 : decode cX11_shares 267 = .ok (.imul, 1) := by decide +kernel
theorem dX11_shares_268 : decode cX11_shares 268 = .ok (.invokevirtual 182, 3) := by decide +kernel
theorem dX11_shares_271 : decode cX11_shares 271 = .ok (.aload_n 0, 1) := by decide +kernel
theorem dX11_shares_272 : decode cX11_shares 272 = .ok (.iload 8, 2) := by decide +kernel
theorem dX11_shares_274 : decode cX11_shares 274 = .ok (.iload 8, 2) := by decide +kernel
theorem dX11_shares_276 : decode cX11_shares 276 = .ok (.imul, 1) := by decide +kernel
theorem dX11_shares_277 : decode cX11_shares 277 = .ok (.invokevirtual 182, 3) := by decide +kernel
theorem dX11_shares_280 : decode cX11_shares 280 = .ok (.imul, 1) := by decide +kernel
theorem dX11_shares_281 : decode cX11_shares 281 = .ok (.isub, 1) := by decide +kernel
theorem dX11_shares_282 : decode cX11_shares 282 = .ok (.invokevirtual 182, 3) := by decide +kernel
theorem dX11_shares_285 : decode cX11_shares 285 = .ok (.iastore, 1) := by decide +kernel
theorem dX11_shares_286 : decode cX11_shares 286 = .ok (.goto 108, 3) := by decide +kernel
theorem dX11_shares_289 : decode cX11_shares 289 = .ok (.iload_n 3, 1) := by decide +kernel
theorem dX11_shares_290 : decode cX11_shares 290 = .ok (.bipush 7, 2) := by decide +kernel
theorem dX11_shares_292 : decode cX11_shares 292 = .ok (.if_icmp .ne 55, 3) := by decide +kernel
theorem dX11_shares_295 : decode cX11_shares 295 = .ok (.iload 4, 2) := by decide +kernel
theorem dX11_shares_297 : decode cX11_shares 297 = .ok (.ifCond .le 50, 3) := by decide +kernel
theorem dX11_shares_300 : decode cX11_shares 300 = .ok (.aload_n 0, 1) := by decide +kernel
theorem dX11_shares_301 : decode cX11_shares 301 = .ok (.getfield 53, 3) := by decide +kernel
theorem dX11_shares_304 : decode cX11_shares 304 = .ok (.iload 6, 2) := by decide +kernel
theorem dX11_shares_306 : decode cX11_shares 306 = .ok (.aload_n 0, 1) := by decide +kernel
theorem dX11_shares_307 : decode cX11_shares 307 = .ok (.aload_n 0, 1) := by decide +kernel
theorem dX11_shares_308 : decode cX11_shares 308 = .ok (.getfield 53, 3) := by decide +kernel
theorem dX11_shares_311 : decode cX11_shares 311 = .ok (.iload 6, 2) := by decide +kernel
theorem dX11_shares_313 : decode cX11_shares 313 = .ok (.iaload, 1) := by decide +kernel
theorem dX11_shares_314 : decode cX11_shares 314 = .ok (.aload_n 0, 1) := by decide +kernel
theorem dX11_shares_315 : decode cX11_shares 315 = .ok (.iload 4, 2) := by decide +kernel
theorem dX11_shares_317 : decode cX11_shares 317 = .ok (.aload_n 0, 1) := by decide +kernel
theorem dX11_shares_318 : decode cX11_shares 318 = .ok (.aload_n 0, 1) := by decide +kernel
theorem dX11_shares_319 : decode cX11_shares 319 = .ok (.getfield 41, 3) := by decide +kernel
theorem dX11_shares_322 : decode cX11_shares 322 = .ok (.iload 6, 2) := by decide +kernel
theorem dX11_shares_324 : decode cX11_shares 324 = .ok (.iaload, 1) := by decide +kernel
theorem dX11_shares_325 : decode cX11_shares 325 = .ok (.iload 4, 2) := by decide +kernel
theorem dX11_shares_327 : decode cX11_shares 327 = .ok (.iconst 1, 1) := by decide +kernel
theorem dX11_shares_328 : decode cX11_shares 328 = .ok (.isub, 1) := by decide +kernel
theorem dX11_shares_329 : decode cX11_shares 329 = .ok (.invokevirtual 191, 3) := by decide +kernel
theorem dX11_shares_332 : decode cX11_shares 332 = .ok (.imul, 1) := by decide +kernel
theorem dX11_shares_333 : decode cX11_shares 333 = .ok (.invokevirtual 182, 3) := by decide +kernel
theorem dX11_shares_336 : decode cX11_shares 336 = .ok (.iload 5, 2) := by decide +kernel
theorem dX11_shares_338 : decode cX11_shares 338 = .ok (.imul, 1) := by decide +kernel
theorem dX11_shares_339 : decode cX11_shares 339 = .ok (.iadd, 1) := by decide +kernel
theorem dX11_shares_340 : decode cX11_shares 340 = .ok (.invokevirtual 182, 3) := by decide +kernel
theorem dX11_shares_343 : decode cX11_shares 343 = .ok (.iastore, 1) := by decide +kernel
theorem dX11_shares_344 : decode cX11_shares 344 = .ok (.goto 50, 3) := by decide +kernel
theorem dX11_shares_347 : decode cX11_shares 347 = .ok (.iload_n 3, 1) := by decide +kernel
theorem dX11_shares_348 : decode cX11_shares 348 = .ok (.bipush 8, 2) := by decide +kernel
theorem dX11_shares_350 : decode cX11_shares 350 = .ok (.if_icmp .ne 44, 3) := by decide +kernel
theorem dX11_shares_353 : decode cX11_shares 353 = .ok (.aload_n 0, 1) := by decide +kernel
theorem dX11_shares_354 : decode cX11_shares 354 = .ok (.getfield 53, 3) := by decide +kernel
theorem dX11_shares_357 : decode cX11_shares 357 = .ok (.iload 6, 2) := by decide +kernel
theorem dX11_shares_359 : decode cX11_shares 359 = .ok (.aload_n 0, 1) := by decide +kernel
theorem dX11_shares_360 : decode cX11_shares 360 = .ok (.aload_n 0, 1) := by decide +kernel
theorem dX11_shares_361 : decode cX11_shares 361 = .ok (.getfield 53, 3) := by decide +kernel
theorem dX11_shares_364 : decode cX11_shares 364 = .ok (.iload 6, 2) := by decide +kernel
theorem dX11_shares_366 : decode cX11_shares 366 = .ok (.iaload, 1) := by decide +kernel
theorem dX11_shares_367 : decode cX11_shares 367 = .ok (.iload 5, 2) := by decide +kernel
theorem dX11_shares_369 : decode cX11_shares 369 = .ok (.aload_n 0, 1) := by decide +kernel
theorem dX11_shares_370 : decode cX11_shares 370 = .ok (.getfield 38, 3) := by decide +kernel
theorem dX11_shares_373 : decode cX11_shares 373 = .ok (.sipush 199, 3) := by decide +kernel
theorem dX11_shares_376 : decode cX11_shares 376 = .ok (.iload 4, 2) := by decide +kernel
theorem dX11_shares_378 : decode cX11_shares 378 = .ok (.imul, 1) := by decide +kernel
theorem dX11_shares_379 : decode cX11_shares 379 = .ok (.aload_n 0, 1) := by decide +kernel
theorem dX11_shares_380 : decode cX11_shares 380 = .ok (.getfield 41, 3) := by decide +kernel
theorem dX11_shares_383 : decode cX11_shares 383 = .ok (.iload 6, 2) := by decide +kernel
theorem dX11_shares_385 : decode cX11_shares 385 = .ok (.iaload, 1) := by decide +kernel
theorem dX11_shares_386 : decode cX11_shares 386 = .ok (.iadd, 1) := by decide +kernel
theorem dX11_shares_387 : decode cX11_shares 387 = .ok (.iaload, 1) := by decide +kernel
theorem dX11_shares_388 : decode cX11_shares 388 = .ok (.imul, 1) := by decide +kernel
theorem dX11_shares_389 : decode cX11_shares 389 = .ok (.iadd, 1) := by decide +kernel
theorem dX11_shares_390 : decode cX11_shares 390 = .ok (.invokevirtual 182, 3) := by decide +kernel
theorem dX11_shares_393 : decode cX11_shares 393 = .ok (.iastore, 1) := by decide +kernel
theorem dX11_shares_394 : decode cX11_shares 394 = .ok (.return_, 1) := by decide +kernel
set_option maxRecDepth 20000 in
theorem ggX11_slopeOf_X11_size : GoodIn wsX11_slopeOf wsX11_size := goodIn_r _ [6, 7, 36, 37, 38, 39, 40, 41, 42, 43, 44, 45, 46, 47, 48, 49, 50, 51, 52, 53, 54, 55, 56, 57, 58, 59, 60, 61] (by decide +kernel) (by decide +kernel)
set_option maxRecDepth 20000 in
theorem gX11_slopeOf_X11_size : GoodIn wsX11_slopeOf (wsV RX11 156 RX11 yX11_size wsX11_size) := goodIn_app (goodIn_of _ (by decide +kernel)) ggX11_slopeOf_X11_size
set_option maxRecDepth 20000 in
theorem ggX11_slopeOf_X11_shares : GoodIn wsX11_slopeOf wsX11_shares := goodIn_r _ [11, 1, 12, 13, 14, 15, 16, 17, 18, 5, 19, 7, 20, 21, 22, 23, 24, 25, 26, 27, 28, 29, 30, 31, 32, 33, 34, 35, 36, 37, 38, 39, 40, 41, 42, 43, 44, 45, 46, 47, 48, 49, 50, 51, 52, 53, 54, 55, 56, 57, 58, 59, 60, 61] (by decide +kernel) (by decide +kernel)
set_option maxRecDepth 20000 in
theorem gX11_slopeOf_X11_shares : GoodIn wsX11_slopeOf (wsV RX11 197 RX11 yX11_shares wsX11_shares) := goodIn_app (goodIn_of _ (by decide +kernel)) ggX11_slopeOf_X11_shares
set_option maxRecDepth 20000 in
theorem ggX11_slopeOf_X11_kind : GoodIn wsX11_slopeOf wsX11_kind := goodIn_r _ [19, 7, 36, 37, 38, 39, 40, 41, 42, 43, 44, 45, 46, 47, 48, 49, 50, 51, 52, 53, 54, 55, 56, 57, 58, 59, 60, 61] (by decide +kernel) (by decide +kernel)
set_option maxRecDepth 20000 in
theorem gX11_slopeOf_X11_kind : GoodIn wsX11_slopeOf (wsV RX11 159 RX11 yX11_kind wsX11_kind) := goodIn_app (goodIn_of _ (by decide +kernel)) ggX11_slopeOf_X11_kind
set_option maxRecDepth 20000 in
theorem ggX11_slopeOf_X11_p : GoodIn wsX11_slopeOf wsX11_p := goodIn_r _ [27, 7, 36, 37, 38, 39, 40, 41, 42, 43, 44, 45, 46, 47, 48, 49, 50, 51, 52, 53, 54, 55, 56, 57, 58, 59, 60, 61] (by decide +kernel) (by decide +kernel)
set_option maxRecDepth 20000 in
theorem gX11_slopeOf_X11_p : GoodIn wsX11_slopeOf (wsV RX11 182 RX11 yX11_p wsX11_p) := goodIn_app (goodIn_of _ (by decide +kernel)) ggX11_slopeOf_X11_p
theorem dX11_slopeOf_0 : decode cX11_slopeOf 0 = .ok (.iconst 0, 1) := by decide +kernel
theorem dX11_slopeOf_1 : decode cX11_slopeOf 1 = .ok (.istore_n 2, 1) := by decide +kernel
theorem dX11_slopeOf_2 : decode cX11_slopeOf 2 = .ok (.iconst 0, 1) := by decide +kernel
theorem dX11_slopeOf_3 : decode cX11_slopeOf 3 = .ok (.istore_n 3, 1) := by decide +kernel
theorem dX11_slopeOf_4 : decode cX11_slopeOf 4 = .ok (.iload_n 3, 1) := by decide +kernel
theorem dX11_slopeOf_5 : decode cX11_slopeOf 5 = .ok (.aload_n 0, 1) := by decide +kernel
theorem dX11_slopeOf_6 : decode cX11_slopeOf 6 = .ok (.iload_n 1, 1) := by decide +kernel
theorem dX11_slopeOf_7 : decode cX11_slopeOf 7 = .ok (.invokevirtual 156, 3) := by decide +kernel
theorem dX11_slopeOf_10 : decode cX11_slopeOf 10 = .ok (.if_icmp .ge 31, 3) := by decide +kernel
theorem dX11_slopeOf_13 : decode cX11_slopeOf 13 = .ok (.aload_n 0, 1) := by decide +kernel
theorem dX11_slopeOf_14 : decode cX11_slopeOf 14 = .ok (.getfield 53, 3) := by decide +kernel
theorem dX11_slopeOf_17 : decode cX11_slopeOf 17 = .ok (.iload_n 3, 1) := by decide +kernel
theorem dX11_slopeOf_18 : decode cX11_slopeOf 18 = .ok (.iload_n 3, 1) := by decide +kernel
theorem dX11_slopeOf_19 : decode cX11_slopeOf 19 = .ok (.aload_n 0, 1) := by decide +kernel
theorem dX11_slopeOf_20 : decode cX11_slopeOf 20 = .ok (.iload_n 1, 1) := by decide +kernel
theorem dX11_slopeOf_21 : decode cX11_slopeOf 21 = .ok (.invokevirtual 156, 3) := by decide +kernel
theorem dX11_slopeOf_24 : decode cX11_slopeOf 24 = .ok (.iconst 1, 1) := by decide +kernel
theorem dX11_slopeOf_25 : decode cX11_slopeOf 25 = .ok (.isub, 1) := by decide +kernel
theorem dX11_slopeOf_26 : decode cX11_slopeOf 26 = .ok (.if_icmp .ne 7, 3) := by decide +kernel
theorem dX11_slopeOf_29 : decode cX11_slopeOf 29 = .ok (.iconst 1, 1) := by decide +kernel
theorem dX11_slopeOf_30 : decode cX11_slopeOf 30 = .ok (.goto 4, 3) := by decide +kernel
theorem dX11_slopeOf_33 : decode cX11_slopeOf 33 = .ok (.iconst 0, 1) := by decide +kernel
theorem dX11_slopeOf_34 : decode cX11_slopeOf 34 = .ok (.iastore, 1) := by decide +kernel
theorem dX11_slopeOf_35 : decode cX11_slopeOf 35 = .ok (.iinc 3 1, 3) := by decide +kernel
theorem dX11_slopeOf_38 : decode cX11_slopeOf 38 = .ok (.goto (-34), 3) := by decide +kernel
theorem dX11_slopeOf_41 : decode cX11_slopeOf 41 = .ok (.aload_n 0, 1) := by decide +kernel
theorem dX11_slopeOf_42 : decode cX11_slopeOf 42 = .ok (.iload_n 1, 1) := by decide +kernel
theorem dX11_slopeOf_43 : decode cX11_slopeOf 43 = .ok (.invokevirtual 156, 3) := by decide +kernel
theorem dX11_slopeOf_46 : decode cX11_slopeOf 46 = .ok (.iconst 1, 1) := by decide +kernel
theorem dX11_slopeOf_47 : decode cX11_slopeOf 47 = .ok (.isub, 1) := by decide +kernel
theorem dX11_slopeOf_48 : decode cX11_slopeOf 48 = .ok (.istore_n 3, 1) := by decide +kernel
theorem dX11_slopeOf_49 : decode cX11_slopeOf 49 = .ok (.iload_n 3, 1) := by decide +kernel
theorem dX11_slopeOf_50 : decode cX11_slopeOf 50 = .ok (.ifCond .lt 42, 3) := by decide +kernel
theorem dX11_slopeOf_53 : decode cX11_slopeOf 53 = .ok (.aload_n 0, 1) := by decide +kernel
theorem dX11_slopeOf_54 : decode cX11_slopeOf 54 = .ok (.iload_n 1, 1) := by decide +kernel
theorem dX11_slopeOf_55 : decode cX11_slopeOf 55 = .ok (.iload_n 3, 1) := by decide +kernel
theorem dX11_slopeOf_56 : decode cX11_slopeOf 56 = .ok (.invokevirtual 197, 3) := by decide +kernel
theorem dX11_slopeOf_59 : decode cX11_slopeOf 59 = .ok (.aload_n 0, 1) := by decide +kernel
theorem dX11_slopeOf_60 : decode cX11_slopeOf 60 = .ok (.iload_n 1, 1) := by decide +kernel
theorem dX11_slopeOf_61 : decode cX11_slopeOf 61 = .ok (.iload_n 3, 1) := by decide +kernel
theorem dX11_slopeOf_62 : decode cX11_slopeOf 62 = .ok (.invokevirtual 159, 3) := by decide +kernel
theorem dX11_slopeOf_65 : decode cX11_slopeOf 65 = .ok (.iconst 1, 1) := by decide +kernel
theorem dX11_slopeOf_66 : decode cX11_slopeOf 66 = .ok (.if_icmp .ne 18, 3) := by decide +kernel
theorem dX11_slopeOf_69 : decode cX11_slopeOf 69 = .ok (.aload_n 0, 1) := by decide +kernel
theorem dX11_slopeOf_70 : decode cX11_slopeOf 70 = .ok (.iload_n 2, 1) := by decide +kernel
theorem dX11_slopeOf_71 : decode cX11_slopeOf 71 = .ok (.aload_n 0, 1) := by decide +kernel
theorem dX11_slopeOf_72 : decode cX11_slopeOf 72 = .ok (.getfield 53, 3) := by decide +kernel
theorem dX11_slopeOf_75 : decode cX11_slopeOf 75 = .ok (.iload_n 3, 1) := by decide +kernel
theorem dX11_slopeOf_76 : decode cX11_slopeOf 76 = .ok (.iaload, 1) := by decide +kernel
theorem dX11_slopeOf_77 : decode cX11_slopeOf 77 = .ok (.iadd, 1) := by decide +kernel
theorem dX11_slopeOf_78 : decode cX11_slopeOf 78 = .ok (.invokevirtual 182, 3) := by decide +kernel
theorem dX11_slopeOf_81 : decode cX11_slopeOf 81 = .ok (.goto 4, 3) := by decide +kernel
theorem dX11_slopeOf_84 : decode cX11_slopeOf 84 = .ok (.iload_n 2, 1) := by decide +kernel
theorem dX11_slopeOf_85 : decode cX11_slopeOf 85 = .ok (.istore_n 2, 1) := by decide +kernel
theorem dX11_slopeOf_86 : decode cX11_slopeOf 86 = .ok (.iinc 3 (-1), 3) := by decide +kernel
theorem dX11_slopeOf_89 : decode cX11_slopeOf 89 = .ok (.goto (-40), 3) := by decide +kernel
theorem dX11_slopeOf_92 : decode cX11_slopeOf 92 = .ok (.iload_n 2, 1) := by decide +kernel
theorem dX11_slopeOf_93 : decode cX11_slopeOf 93 = .ok (.ireturn, 1) := by decide +kernel
set_option maxRecDepth 20000 in
theorem ggX11_knows_X11_p : GoodIn wsX11_knows wsX11_p := goodIn_r _ [12, 1, 57, 58, 59, 60, 61, 62, 63, 64, 65, 66, 67, 68, 69, 70, 71, 72, 73, 74, 75, 76, 77, 78, 79, 80, 81, 82] (by decide +kernel) (by decide +kernel)
set_option maxRecDepth 20000 in
theorem gX11_knows_X11_p : GoodIn wsX11_knows (wsV RX11 182 RX11 yX11_p wsX11_p) := goodIn_app (goodIn_of _ (by decide +kernel)) ggX11_knows_X11_p
set_option maxRecDepth 20000 in
theorem ggX11_knows_X11_feeds : GoodIn wsX11_knows wsX11_feeds := goodIn_r _ [16, 3, 4, 6, 17, 18, 19, 11, 20, 21, 22, 23, 24, 25, 26, 27, 1, 28, 29, 30, 31, 32, 33, 34, 35, 2, 5, 36, 37, 38, 39, 8, 9, 10, 12, 40, 41, 42, 43, 44, 45, 46, 47, 57, 58, 59, 60, 61, 62, 63, 64, 65, 66, 67, 68, 69, 70, 71, 72, 73, 74, 75, 76, 77, 78, 79, 80, 81, 82] (by decide +kernel) (by decide +kernel)
set_option maxRecDepth 20000 in
theorem gX11_knows_X11_feeds : GoodIn wsX11_knows (wsV RX11 200 RX11 yX11_feeds wsX11_feeds) := goodIn_app (goodIn_of _ (by decide +kernel)) ggX11_knows_X11_feeds
set_option maxRecDepth 20000 in
theorem ggX11_knows_X11_size : GoodIn wsX11_knows wsX11_size := goodIn_r _ [27, 1, 57, 58, 59, 60, 61, 62, 63, 64, 65, 66, 67, 68, 69, 70, 71, 72, 73, 74, 75, 76, 77, 78, 79, 80, 81, 82] (by decide +kernel) (by decide +kernel)
set_option maxRecDepth 20000 in
theorem gX11_knows_X11_size : GoodIn wsX11_knows (wsV RX11 156 RX11 yX11_size wsX11_size) := goodIn_app (goodIn_of _ (by decide +kernel)) ggX11_knows_X11_size
set_option maxRecDepth 20000 in
theorem ggX11_knows_X11_slopeOf : GoodIn wsX11_knows wsX11_slopeOf := goodIn_r _ [51, 52, 24, 25, 26, 11, 27, 1, 53, 54, 55, 56, 23, 21, 4, 7, 28, 29, 30, 31, 36, 37, 38, 39, 8, 9, 10, 12, 40, 41, 42, 43, 44, 45, 46, 47, 57, 58, 59, 60, 61, 62, 63, 64, 65, 66, 67, 68, 69, 70, 71, 72, 73, 74, 75, 76, 77, 78, 79, 80, 81, 82] (by decide +kernel) (by decide +kernel)
set_option maxRecDepth 20000 in
theorem gX11_knows_X11_slopeOf : GoodIn wsX11_knows (wsV RX11 204 RX11 yX11_slopeOf wsX11_slopeOf) := goodIn_app (goodIn_of _ (by decide +kernel)) ggX11_knows_X11_slopeOf
theorem dX11_knows_0 : decode cX11_knows 0 = .ok (.iconst 0, 1) := by decide +kernel
theorem dX11_knows_1 : decode cX11_knows 1 = .ok (.istore_n 2, 1) := by decide +kernel
theorem dX11_knows_2 : decode cX11_knows 2 = .ok (.iload_n 2, 1) := by decide +kernel
theorem dX11_knows_3 : decode cX11_knows 3 = .ok (.iload_n 1, 1) := by decide +kernel
theorem dX11_knows_4 : decode cX11_knows 4 = .ok (.if_icmp .gt 135, 3) := by decide +kernel
theorem dX11_knows_7 : decode cX11_knows 7 = .ok (.iconst 0, 1) := by decide +kernel
theorem dX11_knows_8 : decode cX11_knows 8 = .ok (.istore_n 3, 1) := by decide +kernel
theorem dX11_knows_9 : decode cX11_knows 9 = .ok (.iload_n 3, 1) := by decide +kernel
theorem dX11_knows_10 : decode cX11_knows 10 = .ok (.aload_n 0, 1) := by decide +kernel
theorem dX11_knows_11 : decode cX11_knows 11 = .ok (.getfield 7, 3) := by decide +kernel
theorem dX11_knows_14 : decode cX11_knows 14 = .ok (.iconst 0, 1) := by decide +kernel
theorem dX11_knows_15 : decode cX11_knows 15 = .ok (.iaload, 1) := by decide +kernel
theorem dX11_knows_16 : decode cX11_knows 16 = .ok (.if_icmp .ge 117, 3) := by decide +kernel
theorem dX11_knows_19 : decode cX11_knows 19 = .ok (.aload_n 0, 1) := by decide +kernel
theorem dX11_knows_20 : decode cX11_knows 20 = .ok (.iload_n 2, 1) := by decide +kernel
theorem dX11_knows_21 : decode cX11_knows 21 = .ok (.iload_n 3, 1) := by decide +kernel
theorem dX11_knows_22 : decode cX11_knows 22 = .ok (.aload_n 0, 1) := by decide +kernel
theorem dX11_knows_23 : decode cX11_knows 23 = .ok (.iconst 1, 1) := by decide +kernel
theorem dX11_knows_24 : decode cX11_knows 24 = .ok (.invokevirtual 182, 3) := by decide +kernel
theorem dX11_knows_27 : decode cX11_knows 27 = .ok (.invokevirtual 200, 3) := by decide +kernel
theorem dX11_knows_30 : decode cX11_knows 30 = .ok (.aload_n 0, 1) := by decide +kernel
theorem dX11_knows_31 : decode cX11_knows 31 = .ok (.iload_n 2, 1) := by decide +kernel
theorem dX11_knows_32 : decode cX11_knows 32 = .ok (.invokevirtual 156, 3) := by decide +kernel
theorem dX11_knows_35 : decode cX11_knows 35 = .ok (.iconst 1, 1) := by decide +kernel
theorem dX11_knows_36 : decode cX11_knows 36 = .ok (.isub, 1) := by decide +kernel
theorem dX11_knows_37 : decode cX11_knows 37 = .ok (.istore 4, 2) := by decide +kernel
theorem dX11_knows_39 : decode cX11_knows 39 = .ok (.aload_n 0, 1) := by decide +kernel
theorem dX11_knows_40 : decode cX11_knows 40 = .ok (.getfield 32, 3) := by decide +kernel
theorem dX11_knows_43 : decode cX11_knows 43 = .ok (.sipush 199, 3) := by decide +kernel
theorem dX11_knows_46 : decode cX11_knows 46 = .ok (.iload_n 2, 1) := by decide +kernel
theorem dX11_knows_47 : decode cX11_knows 47 = .ok (.imul, 1) := by decide +kernel
theorem dX11_knows_48 : decode cX11_knows 48 = .ok (.iload_n 3, 1) := by decide +kernel
theorem dX11_knows_49 : decode cX11_knows 49 = .ok (.iadd, 1) := by decide +kernel
theorem dX11_knows_50 : decode cX11_knows 50 = .ok (.aload_n 0, 1) := by decide +kernel
theorem dX11_knows_51 : decode cX11_knows 51 = .ok (.getfield 185, 3) := by decide +kernel
theorem dX11_knows_54 : decode cX11_knows 54 = .ok (.ifCond .eq 7, 3) := by decide +kernel
theorem dX11_knows_57 : decode cX11_knows 57 = .ok (.iconst (-1), 1) := by decide +kernel
theorem dX11_knows_58 : decode cX11_knows 58 = .ok (.goto 10, 3) := by decide +kernel
theorem dX11_knows_61 : decode cX11_knows 61 = .ok (.aload_n 0, 1) := by decide +kernel
theorem dX11_knows_62 : decode cX11_knows 62 = .ok (.getfield 41, 3) := by decide +kernel
theorem dX11_knows_65 : decode cX11_knows 65 = .ok (.iload 4, 2) := by decide +kernel
theorem dX11_knows_67 : decode cX11_knows 67 = .ok (.iaload, 1) := by decide +kernel
theorem dX11_knows_68 : decode cX11_knows 68 = .ok (.iastore, 1) := by decide +kernel
theorem dX11_knows_69 : decode cX11_knows 69 = .ok (.aload_n 0, 1) := by decide +kernel
theorem dX11_knows_70 : decode cX11_knows 70 = .ok (.getfield 35, 3) := by decide +kernel
theorem dX11_knows_73 : decode cX11_knows 73 = .ok (.sipush 199, 3) := by decide +kernel
theorem dX11_knows_76 : decode cX11_knows 76 = .ok (.iload_n 2, 1) := by decide +kernel
theorem dX11_knows_77 : decode cX11_knows 77 = .ok (.imul, 1) := by decide +kernel
theorem dX11_knows_78 : decode cX11_knows 78 = .ok (.iload_n 3, 1) := by decide +kernel
theorem dX11_knows_79 : decode cX11_knows 79 = .ok (.iadd, 1) := by decide +kernel
theorem dX11_knows_80 : decode cX11_knows 80 = .ok (.aload_n 0, 1) := by decide +kernel
theorem dX11_knows_81 : decode cX11_knows 81 = .ok (.getfield 185, 3) := by decide +kernel
theorem dX11_knows_84 : decode cX11_knows 84 = .ok (.ifCond .eq 7, 3) := by decide +kernel
theorem dX11_knows_87 : decode cX11_knows 87 = .ok (.iconst (-1), 1) := by decide +kernel
theorem dX11_knows_88 : decode cX11_knows 88 = .ok (.goto 10, 3) := by decide +kernel
theorem dX11_knows_91 : decode cX11_knows 91 = .ok (.aload_n 0, 1) := by decide +kernel
theorem dX11_knows_92 : decode cX11_knows 92 = .ok (.getfield 44, 3) := by decide +kernel
theorem dX11_knows_95 : decode cX11_knows 95 = .ok (.iload 4, 2) := by decide +kernel
theorem dX11_knows_97 : decode cX11_knows 97 = .ok (.iaload, 1) := by decide +kernel
theorem dX11_knows_98 : decode cX11_knows 98 = .ok (.iastore, 1) := by decide +kernel
theorem dX11_knows_99 : decode cX11_knows 99 = .ok (.aload_n 0, 1) := by decide +kernel
theorem dX11_knows_100 : decode cX11_knows 100 = .ok (.getfield 38, 3) := by decide +kernel
theorem dX11_knows_103 : decode cX11_knows 103 = .ok (.sipush 199, 3) := by decide +kernel
theorem dX11_knows_106 : decode cX11_knows 106 = .ok (.iload_n 2, 1) := by decide +kernel
theorem dX11_knows_107 : decode cX11_knows 107 = .ok (.imul, 1) := by decide +kernel
theorem dX11_knows_108 : decode cX11_knows 108 = .ok (.iload_n 3, 1) := by decide +kernel
theorem dX11_knows_109 : decode cX11_knows 109 = .ok (.iadd, 1) := by decide +kernel
theorem dX11_knows_110 : decode cX11_knows 110 = .ok (.aload_n 0, 1) := by decide +kernel
theorem dX11_knows_111 : decode cX11_knows 111 = .ok (.getfield 185, 3) := by decide +kernel
theorem dX11_knows_114 : decode cX11_knows 114 = .ok (.ifCond .eq 7, 3) := by decide +kernel
theorem dX11_knows_117 : decode cX11_knows 117 = .ok (.iconst (-1), 1) := by decide +kernel
theorem dX11_knows_118 : decode cX11_knows 118 = .ok (.goto 8, 3) := by decide +kernel
theorem dX11_knows_121 : decode cX11_knows 121 = .ok (.aload_n 0, 1) := by decide +kernel
theorem dX11_knows_122 : decode cX11_knows 122 = .ok (.iload_n 2, 1) := by decide +kernel
theorem dX11_knows_123 : decode cX11_knows 123 = .ok (.invokevirtual 204, 3) := by decide +kernel
theorem dX11_knows_126 : decode cX11_knows 126 = .ok (.iastore, 1) := by decide +kernel
theorem dX11_knows_127 : decode cX11_knows 127 = .ok (.iinc 3 1, 3) := by decide +kernel
theorem dX11_knows_130 : decode cX11_knows 130 = .ok (.goto (-121), 3) := by decide +kernel
theorem dX11_knows_133 : decode cX11_knows 133 = .ok (.iinc 2 1, 3) := by decide +kernel
theorem dX11_knows_136 : decode cX11_knows 136 = .ok (.goto (-134), 3) := by decide +kernel
theorem dX11_knows_139 : decode cX11_knows 139 = .ok (.return_, 1) := by decide +kernel
set_option maxRecDepth 20000 in
theorem ggX11_modulus_X11_says : GoodIn wsX11_modulus wsX11_says := goodIn_r _ [6, 7, 8, 9, 10, 11, 12, 13, 14, 15, 16, 17, 18, 19, 20, 21, 22, 23, 24, 25, 26, 27, 28, 29, 30, 31, 32, 33] (by decide +kernel) (by decide +kernel)
set_option maxRecDepth 20000 in
theorem gX11_modulus_X11_says : GoodIn wsX11_modulus (wsV RX11 74 RX11 yX11_says wsX11_says) := goodIn_app (goodIn_of _ (by decide +kernel)) ggX11_modulus_X11_says
theorem dX11_modulus_0 : decode cX11_modulus 0 = .ok (.aload_n 0, 1) := by decide +kernel
theorem dX11_modulus_1 : decode cX11_modulus 1 = .ok (.aload_n 0, 1) := by decide +kernel
theorem dX11_modulus_2 : decode cX11_modulus 2 = .ok (.getfield 7, 3) := by decide +kernel
theorem dX11_modulus_5 : decode cX11_modulus 5 = .ok (.iconst 0, 1) := by decide +kernel
theorem dX11_modulus_6 : decode cX11_modulus 6 = .ok (.iaload, 1) := by decide +kernel
theorem dX11_modulus_7 : decode cX11_modulus 7 = .ok (.invokevirtual 74, 3) := by decide +kernel
theorem dX11_modulus_10 : decode cX11_modulus 10 = .ok (.ireturn, 1) := by decide +kernel
set_option maxRecDepth 20000 in
theorem ggX11_asksAt_X11_isFunction : GoodIn wsX11_asksAt wsX11_isFunction := goodIn_r _ [5, 6, 7, 4, 8] (by decide +kernel) (by decide +kernel)
set_option maxRecDepth 20000 in
theorem gX11_asksAt_X11_isFunction : GoodIn wsX11_asksAt (va_wsS RX11 146 yX11_isFunction wsX11_isFunction) := goodIn_app (goodIn_of _ (by decide +kernel)) ggX11_asksAt_X11_isFunction
set_option maxRecDepth 20000 in
theorem ggX11_asksAt_X11_asks : GoodIn wsX11_asksAt wsX11_asks := goodIn_r _ [12, 13, 76, 77, 78, 79, 80, 81, 82, 83, 84, 85, 86, 87, 88, 89, 90, 91, 92, 93, 94, 95, 96, 97, 98, 99, 100, 101] (by decide +kernel) (by decide +kernel)
set_option maxRecDepth 20000 in
theorem gX11_asksAt_X11_asks : GoodIn wsX11_asksAt (wsV RX11 66 RX11 yX11_asks wsX11_asks) := goodIn_app (goodIn_of _ (by decide +kernel)) ggX11_asksAt_X11_asks
set_option maxRecDepth 20000 in
theorem ggX11_asksAt_X11_in : GoodIn wsX11_asksAt wsX11_in := goodIn_r _ [8] (by decide +kernel) (by decide +kernel)
set_option maxRecDepth 20000 in
theorem gX11_asksAt_X11_in : GoodIn wsX11_asksAt (va_wsS RX11 101 yX11_in wsX11_in) := goodIn_app (goodIn_of _ (by decide +kernel)) ggX11_asksAt_X11_in
set_option maxRecDepth 20000 in
theorem ggX11_asksAt_X11_asksThen : GoodIn wsX11_asksAt wsX11_asksThen := goodIn_r _ [17, 13, 76, 77, 78, 79, 80, 81, 82, 83, 84, 85, 86, 87, 88, 89, 90, 91, 92, 93, 94, 95, 96, 97, 98, 99, 100, 101] (by decide +kernel) (by decide +kernel)
set_option maxRecDepth 20000 in
theorem gX11_asksAt_X11_asksThen : GoodIn wsX11_asksAt (wsV RX11 149 RX11 yX11_asksThen wsX11_asksThen) := goodIn_app (goodIn_of _ (by decide +kernel)) ggX11_asksAt_X11_asksThen
set_option maxRecDepth 20000 in
theorem ggX11_asksAt_X11_knows : GoodIn wsX11_asksAt wsX11_knows := goodIn_r _ [21, 1, 22, 23, 24, 25, 26, 27, 28, 29, 30, 4, 31, 32, 33, 34, 35, 36, 37, 38, 39, 40, 41, 42, 43, 44, 45, 46, 47, 48, 49, 50, 51, 52, 53, 54, 55, 56, 57, 58, 59, 60, 61, 62, 63, 64, 65, 66, 67, 68, 69, 70, 71, 72, 73, 74, 75, 76, 77, 78, 79, 80, 81, 82, 83, 84, 85, 86, 87, 88, 89, 90, 91, 92, 93, 94, 95, 96, 97, 98, 99, 100, 101] (by decide +kernel) (by decide +kernel)
set_option maxRecDepth 20000 in
theorem gX11_asksAt_X11_knows : GoodIn wsX11_asksAt (wsV RX11 207 RX11 yX11_knows wsX11_knows) := goodIn_app (goodIn_of _ (by decide +kernel)) ggX11_asksAt_X11_knows
theorem dX11_asksAt_0 : decode cX11_asksAt 0 = .ok (.aload_n 0, 1) := by decide +kernel
theorem dX11_asksAt_1 : decode cX11_asksAt 1 = .ok (.iload_n 1, 1) := by decide +kernel
theorem dX11_asksAt_2 : decode cX11_asksAt 2 = .ok (.invokestatic 146, 3) := by decide +kernel
theorem dX11_asksAt_5 : decode cX11_asksAt 5 = .ok (.invokevirtual 66, 3) := by decide +kernel
theorem dX11_asksAt_8 : decode cX11_asksAt 8 = .ok (.pop, 1) := by decide +kernel
theorem dX11_asksAt_9 : decode cX11_asksAt 9 = .ok (.aload_n 0, 1) := by decide +kernel
theorem dX11_asksAt_10 : decode cX11_asksAt 10 = .ok (.iload_n 2, 1) := by decide +kernel
theorem dX11_asksAt_11 : decode cX11_asksAt 11 = .ok (.iconst 0, 1) := by decide +kernel
theorem dX11_asksAt_12 : decode cX11_asksAt 12 = .ok (.aload_n 0, 1) := by decide +kernel
theorem dX11_asksAt_13 : decode cX11_asksAt 13 = .ok (.getfield 7, 3) := by decide +kernel
theorem dX11_asksAt_16 : decode cX11_asksAt 16 = .ok (.iconst 0, 1) := by decide +kernel
theorem dX11_asksAt_17 : decode cX11_asksAt 17 = .ok (.iaload, 1) := by decide +kernel
theorem dX11_asksAt_18 : decode cX11_asksAt 18 = .ok (.iconst 1, 1) := by decide +kernel
theorem dX11_asksAt_19 : decode cX11_asksAt 19 = .ok (.isub, 1) := by decide +kernel
theorem dX11_asksAt_20 : decode cX11_asksAt 20 = .ok (.invokestatic 101, 3) := by decide +kernel
theorem dX11_asksAt_23 : decode cX11_asksAt 23 = .ok (.iconst 2, 1) := by decide +kernel
theorem dX11_asksAt_24 : decode cX11_asksAt 24 = .ok (.invokevirtual 149, 3) := by decide +kernel
theorem dX11_asksAt_27 : decode cX11_asksAt 27 = .ok (.istore_n 3, 1) := by decide +kernel
theorem dX11_asksAt_28 : decode cX11_asksAt 28 = .ok (.iload_n 3, 1) := by decide +kernel
theorem dX11_asksAt_29 : decode cX11_asksAt 29 = .ok (.ifCond .eq 8, 3) := by decide +kernel
theorem dX11_asksAt_32 : decode cX11_asksAt 32 = .ok (.aload_n 0, 1) := by decide +kernel
theorem dX11_asksAt_33 : decode cX11_asksAt 33 = .ok (.iload_n 1, 1) := by decide +kernel
theorem dX11_asksAt_34 : decode cX11_asksAt 34 = .ok (.invokevirtual 207, 3) := by decide +kernel
theorem dX11_asksAt_37 : decode cX11_asksAt 37 = .ok (.iload_n 3, 1) := by decide +kernel
theorem dX11_asksAt_38 : decode cX11_asksAt 38 = .ok (.ireturn, 1) := by decide +kernel
set_option maxRecDepth 20000 in
theorem ggX11_valueAt_X11_asksAt : GoodIn wsX11_valueAt wsX11_asksAt := goodIn_r _ [6, 7, 8, 9, 5, 10, 11, 12, 13, 14, 15, 16, 17, 18, 19, 20, 21, 22, 23, 24, 25, 26, 1, 27, 28, 29, 30, 31, 32, 33, 34, 35, 36, 37, 38, 39, 40, 41, 42, 43, 44, 45, 46, 47, 48, 49, 50, 51, 52, 53, 54, 55, 56, 57, 58, 59, 60, 61, 62, 63, 64, 65, 66, 67, 68, 69, 70, 71, 72, 73, 74, 75, 76, 77, 78, 79, 80, 81, 82, 83, 84, 85, 86, 87, 88, 89, 90, 91, 92, 93, 94, 95, 96, 97, 98, 99, 100, 101, 102, 103, 104, 105] (by decide +kernel) (by decide +kernel)
set_option maxRecDepth 20000 in
theorem gX11_valueAt_X11_asksAt : GoodIn wsX11_valueAt (wsV RX11 210 RX11 yX11_asksAt wsX11_asksAt) := goodIn_app (goodIn_of _ (by decide +kernel)) ggX11_valueAt_X11_asksAt
theorem dX11_valueAt_0 : decode cX11_valueAt 0 = .ok (.aload_n 0, 1) := by decide +kernel
theorem dX11_valueAt_1 : decode cX11_valueAt 1 = .ok (.iload_n 1, 1) := by decide +kernel
theorem dX11_valueAt_2 : decode cX11_valueAt 2 = .ok (.iload_n 2, 1) := by decide +kernel
theorem dX11_valueAt_3 : decode cX11_valueAt 3 = .ok (.invokevirtual 210, 3) := by decide +kernel
theorem dX11_valueAt_6 : decode cX11_valueAt 6 = .ok (.ifCond .eq 18, 3) := by decide +kernel
theorem dX11_valueAt_9 : decode cX11_valueAt 9 = .ok (.aload_n 0, 1) := by decide +kernel
theorem dX11_valueAt_10 : decode cX11_valueAt 10 = .ok (.getfield 32, 3) := by decide +kernel
theorem dX11_valueAt_13 : decode cX11_valueAt 13 = .ok (.sipush 199, 3) := by decide +kernel
theorem dX11_valueAt_16 : decode cX11_valueAt 16 = .ok (.iload_n 1, 1) := by decide +kernel
theorem dX11_valueAt_17 : decode cX11_valueAt 17 = .ok (.imul, 1) := by decide +kernel
theorem dX11_valueAt_18 : decode cX11_valueAt 18 = .ok (.iload_n 2, 1) := by decide +kernel
theorem dX11_valueAt_19 : decode cX11_valueAt 19 = .ok (.iadd, 1) := by decide +kernel
theorem dX11_valueAt_20 : decode cX11_valueAt 20 = .ok (.iaload, 1) := by decide +kernel
theorem dX11_valueAt_21 : decode cX11_valueAt 21 = .ok (.goto 4, 3) := by decide +kernel
theorem dX11_valueAt_24 : decode cX11_valueAt 24 = .ok (.iconst 0, 1) := by decide +kernel
theorem dX11_valueAt_25 : decode cX11_valueAt 25 = .ok (.ireturn, 1) := by decide +kernel
set_option maxRecDepth 20000 in
theorem ggX11_slopeByHinges_X11_asksAt : GoodIn wsX11_slopeByHinges wsX11_asksAt := goodIn_r _ [6, 7, 8, 9, 5, 10, 11, 12, 13, 14, 15, 16, 17, 18, 19, 20, 21, 22, 23, 24, 25, 26, 27, 28, 29, 1, 30, 31, 32, 33, 34, 35, 36, 37, 38, 39, 40, 41, 42, 43, 44, 45, 46, 47, 48, 49, 50, 51, 52, 53, 54, 55, 56, 57, 58, 59, 60, 61, 62, 63, 64, 65, 66, 67, 68, 69, 70, 71, 72, 73, 74, 75, 76, 77, 78, 79, 80, 81, 82, 83, 84, 85, 86, 87, 88, 89, 90, 91, 92, 93, 94, 95, 96, 97, 98, 99, 100, 101, 102, 103, 104, 105] (by decide +kernel) (by decide +kernel)
set_option maxRecDepth 20000 in
theorem gX11_slopeByHinges_X11_asksAt : GoodIn wsX11_slopeByHinges (wsV RX11 210 RX11 yX11_asksAt wsX11_asksAt) := goodIn_app (goodIn_of _ (by decide +kernel)) ggX11_slopeByHinges_X11_asksAt
theorem dX11_slopeByHinges_0 : decode cX11_slopeByHinges 0 = .ok (.aload_n 0, 1) := by decide +kernel
theorem dX11_slopeByHinges_1 : decode cX11_slopeByHinges 1 = .ok (.iload_n 1, 1) := by decide +kernel
theorem dX11_slopeByHinges_2 : decode cX11_slopeByHinges 2 = .ok (.iload_n 2, 1) := by decide +kernel
theorem dX11_slopeByHinges_3 : decode cX11_slopeByHinges 3 = .ok (.invokevirtual 210, 3) := by decide +kernel
theorem dX11_slopeByHinges_6 : decode cX11_slopeByHinges 6 = .ok (.ifCond .eq 18, 3) := by decide +kernel
theorem dX11_slopeByHinges_9 : decode cX11_slopeByHinges 9 = .ok (.aload_n 0, 1) := by decide +kernel
theorem dX11_slopeByHinges_10 : decode cX11_slopeByHinges 10 = .ok (.getfield 35, 3) := by decide +kernel
theorem dX11_slopeByHinges_13 : decode cX11_slopeByHinges 13 = .ok (.sipush 199, 3) := by decide +kernel
theorem dX11_slopeByHinges_16 : decode cX11_slopeByHinges 16 = .ok (.iload_n 1, 1) := by decide +kernel
theorem dX11_slopeByHinges_17 : decode cX11_slopeByHinges 17 = .ok (.imul, 1) := by decide +kernel
theorem dX11_slopeByHinges_18 : decode cX11_slopeByHinges 18 = .ok (.iload_n 2, 1) := by decide +kernel
theorem dX11_slopeByHinges_19 : decode cX11_slopeByHinges 19 = .ok (.iadd, 1) := by decide +kernel
theorem dX11_slopeByHinges_20 : decode cX11_slopeByHinges 20 = .ok (.iaload, 1) := by decide +kernel
theorem dX11_slopeByHinges_21 : decode cX11_slopeByHinges 21 = .ok (.goto 4, 3) := by decide +kernel
theorem dX11_slopeByHinges_24 : decode cX11_slopeByHinges 24 = .ok (.iconst 0, 1) := by decide +kernel
theorem dX11_slopeByHinges_25 : decode cX11_slopeByHinges 25 = .ok (.ireturn, 1) := by decide +kernel
set_option maxRecDepth 20000 in
theorem ggX11_slopeByRules_X11_asksAt : GoodIn wsX11_slopeByRules wsX11_asksAt := goodIn_r _ [6, 7, 8, 9, 5, 10, 11, 12, 13, 14, 15, 16, 17, 18, 19, 20, 21, 22, 23, 24, 25, 26, 27, 28, 29, 30, 31, 1, 32, 33, 34, 35, 36, 37, 38, 39, 40, 41, 42, 43, 44, 45, 46, 47, 48, 49, 50, 51, 52, 53, 54, 55, 56, 57, 58, 59, 60, 61, 62, 63, 64, 65, 66, 67, 68, 69, 70, 71, 72, 73, 74, 75, 76, 77, 78, 79, 80, 81, 82, 83, 84, 85, 86, 87, 88, 89, 90, 91, 92, 93, 94, 95, 96, 97, 98, 99, 100, 101, 102, 103, 104, 105] (by decide +kernel) (by decide +kernel)
set_option maxRecDepth 20000 in
theorem gX11_slopeByRules_X11_asksAt : GoodIn wsX11_slopeByRules (wsV RX11 210 RX11 yX11_asksAt wsX11_asksAt) := goodIn_app (goodIn_of _ (by decide +kernel)) ggX11_slopeByRules_X11_asksAt
theorem dX11_slopeByRules_0 : decode cX11_slopeByRules 0 = .ok (.aload_n 0, 1) := by decide +kernel
theorem dX11_slopeByRules_1 : decode cX11_slopeByRules 1 = .ok (.iload_n 1, 1) := by decide +kernel
theorem dX11_slopeByRules_2 : decode cX11_slopeByRules 2 = .ok (.iload_n 2, 1) := by decide +kernel
theorem dX11_slopeByRules_3 : decode cX11_slopeByRules 3 = .ok (.invokevirtual 210, 3) := by decide +kernel
theorem dX11_slopeByRules_6 : decode cX11_slopeByRules 6 = .ok (.ifCond .eq 18, 3) := by decide +kernel
theorem dX11_slopeByRules_9 : decode cX11_slopeByRules 9 = .ok (.aload_n 0, 1) := by decide +kernel
theorem dX11_slopeByRules_10 : decode cX11_slopeByRules 10 = .ok (.getfield 38, 3) := by decide +kernel
theorem dX11_slopeByRules_13 : decode cX11_slopeByRules 13 = .ok (.sipush 199, 3) := by decide +kernel
theorem dX11_slopeByRules_16 : decode cX11_slopeByRules 16 = .ok (.iload_n 1, 1) := by decide +kernel
theorem dX11_slopeByRules_17 : decode cX11_slopeByRules 17 = .ok (.imul, 1) := by decide +kernel
theorem dX11_slopeByRules_18 : decode cX11_slopeByRules 18 = .ok (.iload_n 2, 1) := by decide +kernel
theorem dX11_slopeByRules_19 : decode cX11_slopeByRules 19 = .ok (.iadd, 1) := by decide +kernel
theorem dX11_slopeByRules_20 : decode cX11_slopeByRules 20 = .ok (.iaload, 1) := by decide +kernel
theorem dX11_slopeByRules_21 : decode cX11_slopeByRules 21 = .ok (.goto 4, 3) := by decide +kernel
theorem dX11_slopeByRules_24 : decode cX11_slopeByRules 24 = .ok (.iconst 0, 1) := by decide +kernel
theorem dX11_slopeByRules_25 : decode cX11_slopeByRules 25 = .ok (.ireturn, 1) := by decide +kernel
set_option maxRecDepth 20000 in
theorem ggX11_asksChain_X11_isFunction : GoodIn wsX11_asksChain wsX11_isFunction := goodIn_r _ [5, 6, 7, 4, 8] (by decide +kernel) (by decide +kernel)
set_option maxRecDepth 20000 in
theorem gX11_asksChain_X11_isFunction : GoodIn wsX11_asksChain (va_wsS RX11 146 yX11_isFunction wsX11_isFunction) := goodIn_app (goodIn_of _ (by decide +kernel)) ggX11_asksChain_X11_isFunction
set_option maxRecDepth 20000 in
theorem ggX11_asksChain_X11_asks : GoodIn wsX11_asksChain wsX11_asks := goodIn_r _ [12, 13, 76, 77, 78, 79, 80, 81, 82, 83, 84, 85, 86, 87, 88, 89, 90, 91, 92, 93, 94, 95, 96, 97, 98, 99, 100, 101] (by decide +kernel) (by decide +kernel)
set_option maxRecDepth 20000 in
theorem gX11_asksChain_X11_asks : GoodIn wsX11_asksChain (wsV RX11 66 RX11 yX11_asks wsX11_asks) := goodIn_app (goodIn_of _ (by decide +kernel)) ggX11_asksChain_X11_asks
set_option maxRecDepth 20000 in
theorem ggX11_asksChain_X11_in : GoodIn wsX11_asksChain wsX11_in := goodIn_r _ [8] (by decide +kernel) (by decide +kernel)
set_option maxRecDepth 20000 in
theorem gX11_asksChain_X11_in : GoodIn wsX11_asksChain (va_wsS RX11 101 yX11_in wsX11_in) := goodIn_app (goodIn_of _ (by decide +kernel)) ggX11_asksChain_X11_in
set_option maxRecDepth 20000 in
theorem ggX11_asksChain_X11_asksThen : GoodIn wsX11_asksChain wsX11_asksThen := goodIn_r _ [17, 13, 76, 77, 78, 79, 80, 81, 82, 83, 84, 85, 86, 87, 88, 89, 90, 91, 92, 93, 94, 95, 96, 97, 98, 99, 100, 101] (by decide +kernel) (by decide +kernel)
set_option maxRecDepth 20000 in
theorem gX11_asksChain_X11_asksThen : GoodIn wsX11_asksChain (wsV RX11 149 RX11 yX11_asksThen wsX11_asksThen) := goodIn_app (goodIn_of _ (by decide +kernel)) ggX11_asksChain_X11_asksThen
set_option maxRecDepth 20000 in
theorem ggX11_asksChain_X11_knows : GoodIn wsX11_asksChain wsX11_knows := goodIn_r _ [21, 1, 22, 23, 24, 25, 26, 27, 28, 29, 30, 4, 31, 32, 33, 34, 35, 36, 37, 38, 39, 40, 41, 42, 43, 44, 45, 46, 47, 48, 49, 50, 51, 52, 53, 54, 55, 56, 57, 58, 59, 60, 61, 62, 63, 64, 65, 66, 67, 68, 69, 70, 71, 72, 73, 74, 75, 76, 77, 78, 79, 80, 81, 82, 83, 84, 85, 86, 87, 88, 89, 90, 91, 92, 93, 94, 95, 96, 97, 98, 99, 100, 101] (by decide +kernel) (by decide +kernel)
set_option maxRecDepth 20000 in
theorem gX11_asksChain_X11_knows : GoodIn wsX11_asksChain (wsV RX11 207 RX11 yX11_knows wsX11_knows) := goodIn_app (goodIn_of _ (by decide +kernel)) ggX11_asksChain_X11_knows
theorem dX11_asksChain_0 : decode cX11_asksChain 0 = .ok (.aload_n 0, 1) := by decide +kernel
theorem dX11_asksChain_1 : decode cX11_asksChain 1 = .ok (.iload_n 1, 1) := by decide +kernel
theorem dX11_asksChain_2 : decode cX11_asksChain 2 = .ok (.invokestatic 146, 3) := by decide +kernel
theorem dX11_asksChain_5 : decode cX11_asksChain 5 = .ok (.ifCond .eq 14, 3) := by decide +kernel
theorem dX11_asksChain_8 : decode cX11_asksChain 8 = .ok (.iload_n 2, 1) := by decide +kernel
theorem dX11_asksChain_9 : decode cX11_asksChain 9 = .ok (.invokestatic 146, 3) := by decide +kernel
theorem dX11_asksChain_12 : decode cX11_asksChain 12 = .ok (.ifCond .eq 7, 3) := by decide +kernel
theorem dX11_asksChain_15 : decode cX11_asksChain 15 = .ok (.iconst 1, 1) := by decide +kernel
theorem dX11_asksChain_16 : decode cX11_asksChain 16 = .ok (.goto 4, 3) := by decide +kernel
theorem dX11_asksChain_19 : decode cX11_asksChain 19 = .ok (.iconst 0, 1) := by decide +kernel
theorem dX11_asksChain_20 : decode cX11_asksChain 20 = .ok (.invokevirtual 66, 3) := by decide +kernel
theorem dX11_asksChain_23 : decode cX11_asksChain 23 = .ok (.pop, 1) := by decide +kernel
theorem dX11_asksChain_24 : decode cX11_asksChain 24 = .ok (.aload_n 0, 1) := by decide +kernel
theorem dX11_asksChain_25 : decode cX11_asksChain 25 = .ok (.iload_n 3, 1) := by decide +kernel
theorem dX11_asksChain_26 : decode cX11_asksChain 26 = .ok (.iconst 0, 1) := by decide +kernel
theorem dX11_asksChain_27 : decode cX11_asksChain 27 = .ok (.aload_n 0, 1) := by decide +kernel
theorem dX11_asksChain_28 : decode cX11_asksChain 28 = .ok (.getfield 7, 3) := by decide +kernel
theorem dX11_asksChain_31 : decode cX11_asksChain 31 = .ok (.iconst 0, 1) := by decide +kernel
theorem dX11_asksChain_32 : decode cX11_asksChain 32 = .ok (.iaload, 1) := by decide +kernel
theorem dX11_asksChain_33 : decode cX11_asksChain 33 = .ok (.iconst 1, 1) := by decide +kernel
theorem dX11_asksChain_34 : decode cX11_asksChain 34 = .ok (.isub, 1) := by decide +kernel
theorem dX11_asksChain_35 : decode cX11_asksChain 35 = .ok (.invokestatic 101, 3) := by decide +kernel
theorem dX11_asksChain_38 : decode cX11_asksChain 38 = .ok (.iconst 2, 1) := by decide +kernel
theorem dX11_asksChain_39 : decode cX11_asksChain 39 = .ok (.invokevirtual 149, 3) := by decide +kernel
theorem dX11_asksChain_42 : decode cX11_asksChain 42 = .ok (.istore 4, 2) := by decide +kernel
theorem dX11_asksChain_44 : decode cX11_asksChain 44 = .ok (.iload 4, 2) := by decide +kernel
theorem dX11_asksChain_46 : decode cX11_asksChain 46 = .ok (.ifCond .eq 17, 3) := by decide +kernel
theorem dX11_asksChain_49 : decode cX11_asksChain 49 = .ok (.aload_n 0, 1) := by decide +kernel
theorem dX11_asksChain_50 : decode cX11_asksChain 50 = .ok (.iload_n 1, 1) := by decide +kernel
theorem dX11_asksChain_51 : decode cX11_asksChain 51 = .ok (.iload_n 2, 1) := by decide +kernel
theorem dX11_asksChain_52 : decode cX11_asksChain 52 = .ok (.if_icmp .le 7, 3) := by decide +kernel
theorem dX11_asksChain_55 : decode cX11_asksChain 55 = .ok (.iload_n 1, 1) := by decide +kernel
theorem dX11_asksChain_56 : decode cX11_asksChain 56 = .ok (.goto 4, 3) := by decide +kernel
theorem dX11_asksChain_59 : decode cX11_asksChain 59 = .ok (.iload_n 2, 1) := by decide +kernel
theorem dX11_asksChain_60 : decode cX11_asksChain 60 = .ok (.invokevirtual 207, 3) := by decide +kernel
theorem dX11_asksChain_63 : decode cX11_asksChain 63 = .ok (.iload 4, 2) := by decide +kernel
theorem dX11_asksChain_65 : decode cX11_asksChain 65 = .ok (.ireturn, 1) := by decide +kernel
set_option maxRecDepth 20000 in
theorem ggX11_chainByProducts_X11_asksChain : GoodIn wsX11_chainByProducts wsX11_asksChain := goodIn_r _ [7, 8, 9, 10, 6, 11, 12, 13, 14, 15, 16, 17, 18, 19, 20, 21, 22, 23, 24, 25, 26, 27, 1, 28, 29, 30, 31, 2, 32, 33, 34, 35, 36, 37, 38, 39, 40, 41, 42, 43, 44, 45, 46, 47, 48, 49, 50, 51, 52, 53, 54, 55, 56, 57, 58, 59, 60, 61, 62, 63, 64, 65, 66, 67, 68, 69, 70, 71, 72, 73, 74, 75, 76, 77, 78, 79, 80, 81, 82, 83, 84, 85, 86, 87, 88, 89, 90, 91, 92, 93, 94, 95, 96, 97, 98, 99, 100, 101, 102, 103, 104, 105] (by decide +kernel) (by decide +kernel)
set_option maxRecDepth 20000 in
theorem gX11_chainByProducts_X11_asksChain : GoodIn wsX11_chainByProducts (wsV RX11 214 RX11 yX11_asksChain wsX11_asksChain) := goodIn_app (goodIn_of _ (by decide +kernel)) ggX11_chainByProducts_X11_asksChain
set_option maxRecDepth 20000 in
theorem ggX11_chainByProducts_X11_p : GoodIn wsX11_chainByProducts wsX11_p := goodIn_r _ [35, 8, 80, 81, 82, 83, 84, 85, 86, 87, 88, 89, 90, 91, 92, 93, 94, 95, 96, 97, 98, 99, 100, 101, 102, 103, 104, 105] (by decide +kernel) (by decide +kernel)
set_option maxRecDepth 20000 in
theorem gX11_chainByProducts_X11_p : GoodIn wsX11_chainByProducts (wsV RX11 182 RX11 yX11_p wsX11_p) := goodIn_app (goodIn_of _ (by decide +kernel)) ggX11_chainByProducts_X11_p
theorem dX11_chainByProducts_0 : decode cX11_chainByProducts 0 = .ok (.aload_n 0, 1) := by decide +kernel
theorem dX11_chainByProducts_1 : decode cX11_chainByProducts 1 = .ok (.iload_n 1, 1) := by decide +kernel
theorem dX11_chainByProducts_2 : decode cX11_chainByProducts 2 = .ok (.iload_n 2, 1) := by decide +kernel
theorem dX11_chainByProducts_3 : decode cX11_chainByProducts 3 = .ok (.iload_n 3, 1) := by decide +kernel
theorem dX11_chainByProducts_4 : decode cX11_chainByProducts 4 = .ok (.invokevirtual 214, 3) := by decide +kernel
theorem dX11_chainByProducts_7 : decode cX11_chainByProducts 7 = .ok (.ifCond .ne 5, 3) := by decide +kernel
theorem dX11_chainByProducts_10 : decode cX11_chainByProducts 10 = .ok (.iconst 0, 1) := by decide +kernel
theorem dX11_chainByProducts_11 : decode cX11_chainByProducts 11 = .ok (.ireturn, 1) := by decide +kernel
theorem dX11_chainByProducts_12 : decode cX11_chainByProducts 12 = .ok (.aload_n 0, 1) := by decide +kernel
theorem dX11_chainByProducts_13 : decode cX11_chainByProducts 13 = .ok (.getfield 32, 3) := by decide +kernel
theorem dX11_chainByProducts_16 : decode cX11_chainByProducts 16 = .ok (.sipush 199, 3) := by decide +kernel
theorem dX11_chainByProducts_19 : decode cX11_chainByProducts 19 = .ok (.iload_n 2, 1) := by decide +kernel
theorem dX11_chainByProducts_20 : decode cX11_chainByProducts 20 = .ok (.imul, 1) := by decide +kernel
theorem dX11_chainByProducts_21 : decode cX11_chainByProducts 21 = .ok (.iload_n 3, 1) := by decide +kernel
theorem dX11_chainByProducts_22 : decode cX11_chainByProducts 22 = .ok (.iadd, 1) := by decide +kernel
theorem dX11_chainByProducts_23 : decode cX11_chainByProducts 23 = .ok (.iaload, 1) := by decide +kernel
theorem dX11_chainByProducts_24 : decode cX11_chainByProducts 24 = .ok (.istore 4, 2) := by decide +kernel
theorem dX11_chainByProducts_26 : decode cX11_chainByProducts 26 = .ok (.iload 4, 2) := by decide +kernel
theorem dX11_chainByProducts_28 : decode cX11_chainByProducts 28 = .ok (.iconst (-1), 1) := by decide +kernel
theorem dX11_chainByProducts_29 : decode cX11_chainByProducts 29 = .ok (.if_icmp .eq 24, 3) := by decide +kernel
theorem dX11_chainByProducts_32 : decode cX11_chainByProducts 32 = .ok (.aload_n 0, 1) := by decide +kernel
theorem dX11_chainByProducts_33 : decode cX11_chainByProducts 33 = .ok (.getfield 32, 3) := by decide +kernel
theorem dX11_chainByProducts_36 : decode cX11_chainByProducts 36 = .ok (.sipush 199, 3) := by decide +kernel
theorem dX11_chainByProducts_39 : decode cX11_chainByProducts 39 = .ok (.iload_n 1, 1) := by decide +kernel
theorem dX11_chainByProducts_40 : decode cX11_chainByProducts 40 = .ok (.imul, 1) := by decide +kernel
theorem dX11_chainByProducts_41 : decode cX11_chainByProducts 41 = .ok (.iload 4, 2) := by decide +kernel
theorem dX11_chainByProducts_43 : decode cX11_chainByProducts 43 = .ok (.iadd, 1) := by decide +kernel
theorem dX11_chainByProducts_44 : decode cX11_chainByProducts 44 = .ok (.iaload, 1) := by decide +kernel
theorem dX11_chainByProducts_45 : decode cX11_chainByProducts 45 = .ok (.iconst (-1), 1) := by decide +kernel
theorem dX11_chainByProducts_46 : decode cX11_chainByProducts 46 = .ok (.if_icmp .eq 7, 3) := by decide +kernel
theorem dX11_chainByProducts_49 : decode cX11_chainByProducts 49 = .ok (.iconst 1, 1) := by decide +kernel
theorem dX11_chainByProducts_50 : decode cX11_chainByProducts 50 = .ok (.goto 4, 3) := by decide +kernel
theorem dX11_chainByProducts_53 : decode cX11_chainByProducts 53 = .ok (.iconst 0, 1) := by decide +kernel
theorem dX11_chainByProducts_54 : decode cX11_chainByProducts 54 = .ok (.istore 5, 2) := by decide +kernel
theorem dX11_chainByProducts_56 : decode cX11_chainByProducts 56 = .ok (.iload 5, 2) := by decide +kernel
theorem dX11_chainByProducts_58 : decode cX11_chainByProducts 58 = .ok (.ifCond .eq 36, 3) := by decide +kernel
theorem dX11_chainByProducts_61 : decode cX11_chainByProducts 61 = .ok (.aload_n 0, 1) := by decide +kernel
theorem dX11_chainByProducts_62 : decode cX11_chainByProducts 62 = .ok (.aload_n 0, 1) := by decide +kernel
theorem dX11_chainByProducts_63 : decode cX11_chainByProducts 63 = .ok (.getfield 38, 3) := by decide +kernel
theorem dX11_chainByProducts_66 : decode cX11_chainByProducts 66 = .ok (.sipush 199, 3) := by decide +kernel
theorem dX11_chainByProducts_69 : decode cX11_chainByProducts 69 = .ok (.iload_n 1, 1) := by decide +kernel
theorem dX11_chainByProducts_70 : decode cX11_chainByProducts 70 = .ok (.imul, 1) := by decide +kernel
theorem dX11_chainByProducts_71 : decode cX11_chainByProducts 71 = .ok (.iload 4, 2) := by decide +kernel
theorem dX11_chainByProducts_73 : decode cX11_chainByProducts 73 = .ok (.iadd, 1) := by decide +kernel
theorem dX11_chainByProducts_74 : decode cX11_chainByProducts 74 = .ok (.iaload, 1) := by decide +kernel
theorem dX11_chainByProducts_75 : decode cX11_chainByProducts 75 = .ok (.aload_n 0, 1) := by decide +kernel
theorem dX11_chainByProducts_76 : decode cX11_chainByProducts 76 = .ok (.getfield 38, 3) := by decide +kernel
theorem dX11_chainByProducts_79 : decode cX11_chainByProducts 79 = .ok (.sipush 199, 3) := by decide +kernel
theorem dX11_chainByProducts_82 : decode cX11_chainByProducts 82 = .ok (.iload_n 2, 1) := by decide +kernel
theorem dX11_chainByProducts_83 : decode cX11_chainByProducts 83 = .ok (.imul, 1) := by decide +kernel
theorem dX11_chainByProducts_84 : decode cX11_chainByProducts 84 = .ok (.iload_n 3, 1) := by decide +kernel
theorem dX11_chainByProducts_85 : decode cX11_chainByProducts 85 = .ok (.iadd, 1) := by decide +kernel
theorem dX11_chainByProducts_86 : decode cX11_chainByProducts 86 = .ok (.iaload, 1) := by decide +kernel
theorem dX11_chainByProducts_87 : decode cX11_chainByProducts 87 = .ok (.imul, 1) := by decide +kernel
theorem dX11_chainByProducts_88 : decode cX11_chainByProducts 88 = .ok (.invokevirtual 182, 3) := by decide +kernel
theorem dX11_chainByProducts_91 : decode cX11_chainByProducts 91 = .ok (.goto 4, 3) := by decide +kernel
theorem dX11_chainByProducts_94 : decode cX11_chainByProducts 94 = .ok (.iconst (-1), 1) := by decide +kernel
theorem dX11_chainByProducts_95 : decode cX11_chainByProducts 95 = .ok (.ireturn, 1) := by decide +kernel
set_option maxRecDepth 20000 in
theorem ggX11_chainByFeeding_X11_asksChain : GoodIn wsX11_chainByFeeding wsX11_asksChain := goodIn_r _ [9, 10, 11, 12, 8, 13, 14, 15, 16, 17, 18, 19, 20, 21, 22, 23, 24, 25, 26, 27, 28, 29, 1, 3, 30, 2, 4, 31, 32, 33, 34, 35, 36, 37, 38, 39, 40, 41, 42, 43, 44, 45, 46, 47, 48, 49, 50, 51, 52, 53, 54, 55, 56, 57, 58, 59, 60, 61, 62, 63, 64, 65, 66, 67, 68, 69, 70, 71, 72, 73, 74, 75, 76, 77, 78, 79, 80, 81, 82, 83, 84, 85, 86, 87, 88, 89, 90, 91, 92, 93, 94, 95, 96, 97, 98, 99, 100, 101, 102, 103, 104, 105] (by decide +kernel) (by decide +kernel)
set_option maxRecDepth 20000 in
theorem gX11_chainByFeeding_X11_asksChain : GoodIn wsX11_chainByFeeding (wsV RX11 214 RX11 yX11_asksChain wsX11_asksChain) := goodIn_app (goodIn_of _ (by decide +kernel)) ggX11_chainByFeeding_X11_asksChain
set_option maxRecDepth 20000 in
theorem ggX11_chainByFeeding_X11_feeds : GoodIn wsX11_chainByFeeding wsX11_feeds := goodIn_r _ [39, 3, 30, 4, 40, 41, 42, 8, 43, 44, 45, 46, 47, 48, 49, 50, 10, 51, 52, 53, 54, 55, 56, 57, 58, 1, 2, 59, 60, 61, 62, 32, 33, 34, 35, 63, 64, 65, 66, 67, 68, 69, 70, 80, 81, 82, 83, 84, 85, 86, 87, 88, 89, 90, 91, 92, 93, 94, 95, 96, 97, 98, 99, 100, 101, 102, 103, 104, 105] (by decide +kernel) (by decide +kernel)
set_option maxRecDepth 20000 in
theorem gX11_chainByFeeding_X11_feeds : GoodIn wsX11_chainByFeeding (wsV RX11 200 RX11 yX11_feeds wsX11_feeds) := goodIn_app (goodIn_of _ (by decide +kernel)) ggX11_chainByFeeding_X11_feeds
set_option maxRecDepth 20000 in
theorem ggX11_chainByFeeding_X11_size : GoodIn wsX11_chainByFeeding wsX11_size := goodIn_r _ [50, 10, 80, 81, 82, 83, 84, 85, 86, 87, 88, 89, 90, 91, 92, 93, 94, 95, 96, 97, 98, 99, 100, 101, 102, 103, 104, 105] (by decide +kernel) (by decide +kernel)
set_option maxRecDepth 20000 in
theorem gX11_chainByFeeding_X11_size : GoodIn wsX11_chainByFeeding (wsV RX11 156 RX11 yX11_size wsX11_size) := goodIn_app (goodIn_of _ (by decide +kernel)) ggX11_chainByFeeding_X11_size
theorem dX11_chainByFeeding_0 : decode cX11_chainByFeeding 0 = .ok (.aload_n 0, 1) := by decide +kernel
theorem dX11_chainByFeeding_1 : decode cX11_chainByFeeding 1 = .ok (.iload_n 1, 1) := by decide +kernel
theorem dX11_chainByFeeding_2 : decode cX11_chainByFeeding 2 = .ok (.iload_n 2, 1) := by decide +kernel
theorem dX11_chainByFeeding_3 : decode cX11_chainByFeeding 3 = .ok (.iload_n 3, 1) := by decide +kernel
theorem dX11_chainByFeeding_4 : decode cX11_chainByFeeding 4 = .ok (.invokevirtual 214, 3) := by decide +kernel
theorem dX11_chainByFeeding_7 : decode cX11_chainByFeeding 7 = .ok (.ifCond .ne 5, 3) := by decide +kernel
theorem dX11_chainByFeeding_10 : decode cX11_chainByFeeding 10 = .ok (.iconst 0, 1) := by decide +kernel
theorem dX11_chainByFeeding_11 : decode cX11_chainByFeeding 11 = .ok (.ireturn, 1) := by decide +kernel
theorem dX11_chainByFeeding_12 : decode cX11_chainByFeeding 12 = .ok (.aload_n 0, 1) := by decide +kernel
theorem dX11_chainByFeeding_13 : decode cX11_chainByFeeding 13 = .ok (.getfield 32, 3) := by decide +kernel
theorem dX11_chainByFeeding_16 : decode cX11_chainByFeeding 16 = .ok (.sipush 199, 3) := by decide +kernel
theorem dX11_chainByFeeding_19 : decode cX11_chainByFeeding 19 = .ok (.iload_n 2, 1) := by decide +kernel
theorem dX11_chainByFeeding_20 : decode cX11_chainByFeeding 20 = .ok (.imul, 1) := by decide +kernel
theorem dX11_chainByFeeding_21 : decode cX11_chainByFeeding 21 = .ok (.iload_n 3, 1) := by decide +kernel
theorem dX11_chainByFeeding_22 : decode cX11_chainByFeeding 22 = .ok (.iadd, 1) := by decide +kernel
theorem dX11_chainByFeeding_23 : decode cX11_chainByFeeding 23 = .ok (.iaload, 1) := by decide +kernel
theorem dX11_chainByFeeding_24 : decode cX11_chainByFeeding 24 = .ok (.istore 4, 2) := by decide +kernel
theorem dX11_chainByFeeding_26 : decode cX11_chainByFeeding 26 = .ok (.iload 4, 2) := by decide +kernel
theorem dX11_chainByFeeding_28 : decode cX11_chainByFeeding 28 = .ok (.iconst (-1), 1) := by decide +kernel
theorem dX11_chainByFeeding_29 : decode cX11_chainByFeeding 29 = .ok (.if_icmp .ne 5, 3) := by decide +kernel
theorem dX11_chainByFeeding_32 : decode cX11_chainByFeeding 32 = .ok (.iconst (-1), 1) := by decide +kernel
theorem dX11_chainByFeeding_33 : decode cX11_chainByFeeding 33 = .ok (.ireturn, 1) := by decide +kernel
theorem dX11_chainByFeeding_34 : decode cX11_chainByFeeding 34 = .ok (.aload_n 0, 1) := by decide +kernel
theorem dX11_chainByFeeding_35 : decode cX11_chainByFeeding 35 = .ok (.iload_n 1, 1) := by decide +kernel
theorem dX11_chainByFeeding_36 : decode cX11_chainByFeeding 36 = .ok (.iload 4, 2) := by decide +kernel
theorem dX11_chainByFeeding_38 : decode cX11_chainByFeeding 38 = .ok (.aload_n 0, 1) := by decide +kernel
theorem dX11_chainByFeeding_39 : decode cX11_chainByFeeding 39 = .ok (.getfield 35, 3) := by decide +kernel
theorem dX11_chainByFeeding_42 : decode cX11_chainByFeeding 42 = .ok (.sipush 199, 3) := by decide +kernel
theorem dX11_chainByFeeding_45 : decode cX11_chainByFeeding 45 = .ok (.iload_n 2, 1) := by decide +kernel
theorem dX11_chainByFeeding_46 : decode cX11_chainByFeeding 46 = .ok (.imul, 1) := by decide +kernel
theorem dX11_chainByFeeding_47 : decode cX11_chainByFeeding 47 = .ok (.iload_n 3, 1) := by decide +kernel
theorem dX11_chainByFeeding_48 : decode cX11_chainByFeeding 48 = .ok (.iadd, 1) := by decide +kernel
theorem dX11_chainByFeeding_49 : decode cX11_chainByFeeding 49 = .ok (.iaload, 1) := by decide +kernel
theorem dX11_chainByFeeding_50 : decode cX11_chainByFeeding 50 = .ok (.invokevirtual 200, 3) := by decide +kernel
theorem dX11_chainByFeeding_53 : decode cX11_chainByFeeding 53 = .ok (.aload_n 0, 1) := by decide +kernel
theorem dX11_chainByFeeding_54 : decode cX11_chainByFeeding 54 = .ok (.getfield 185, 3) := by decide +kernel
theorem dX11_chainByFeeding_57 : decode cX11_chainByFeeding 57 = .ok (.ifCond .eq 7, 3) := by decide +kernel
theorem dX11_chainByFeeding_60 : decode cX11_chainByFeeding 60 = .ok (.iconst (-1), 1) := by decide +kernel
theorem dX11_chainByFeeding_61 : decode cX11_chainByFeeding 61 = .ok (.goto 15, 3) := by decide +kernel
theorem dX11_chainByFeeding_64 : decode cX11_chainByFeeding 64 = .ok (.aload_n 0, 1) := by decide +kernel
theorem dX11_chainByFeeding_65 : decode cX11_chainByFeeding 65 = .ok (.getfield 44, 3) := by decide +kernel
theorem dX11_chainByFeeding_68 : decode cX11_chainByFeeding 68 = .ok (.aload_n 0, 1) := by decide +kernel
theorem dX11_chainByFeeding_69 : decode cX11_chainByFeeding 69 = .ok (.iload_n 1, 1) := by decide +kernel
theorem dX11_chainByFeeding_70 : decode cX11_chainByFeeding 70 = .ok (.invokevirtual 156, 3) := by decide +kernel
theorem dX11_chainByFeeding_73 : decode cX11_chainByFeeding 73 = .ok (.iconst 1, 1) := by decide +kernel
theorem dX11_chainByFeeding_74 : decode cX11_chainByFeeding 74 = .ok (.isub, 1) := by decide +kernel
theorem dX11_chainByFeeding_75 : decode cX11_chainByFeeding 75 = .ok (.iaload, 1) := by decide +kernel
theorem dX11_chainByFeeding_76 : decode cX11_chainByFeeding 76 = .ok (.ireturn, 1) := by decide +kernel
set_option maxRecDepth 20000 in
theorem ggX11_asksAll_X11_isFunction : GoodIn wsX11_asksAll wsX11_isFunction := goodIn_r _ [5, 6, 7, 4, 8] (by decide +kernel) (by decide +kernel)
set_option maxRecDepth 20000 in
theorem gX11_asksAll_X11_isFunction : GoodIn wsX11_asksAll (va_wsS RX11 146 yX11_isFunction wsX11_isFunction) := goodIn_app (goodIn_of _ (by decide +kernel)) ggX11_asksAll_X11_isFunction
set_option maxRecDepth 20000 in
theorem ggX11_asksAll_X11_asks : GoodIn wsX11_asksAll wsX11_asks := goodIn_r _ [12, 1, 72, 73, 74, 75, 76, 77, 78, 79, 80, 81, 82, 83, 84, 85, 86, 87, 88, 89, 90, 91, 92, 93, 94, 95, 96, 97] (by decide +kernel) (by decide +kernel)
set_option maxRecDepth 20000 in
theorem gX11_asksAll_X11_asks : GoodIn wsX11_asksAll (wsV RX11 66 RX11 yX11_asks wsX11_asks) := goodIn_app (goodIn_of _ (by decide +kernel)) ggX11_asksAll_X11_asks
set_option maxRecDepth 20000 in
theorem ggX11_asksAll_X11_knows : GoodIn wsX11_asksAll wsX11_knows := goodIn_r _ [16, 17, 18, 19, 20, 21, 22, 23, 24, 25, 26, 4, 27, 28, 29, 30, 31, 32, 33, 34, 35, 36, 37, 38, 39, 40, 41, 42, 43, 44, 45, 46, 47, 48, 49, 50, 51, 52, 53, 54, 55, 56, 57, 58, 59, 60, 61, 62, 63, 64, 65, 66, 67, 68, 69, 70, 71, 72, 73, 74, 75, 76, 77, 78, 79, 80, 81, 82, 83, 84, 85, 86, 87, 88, 89, 90, 91, 92, 93, 94, 95, 96, 97] (by decide +kernel) (by decide +kernel)
set_option maxRecDepth 20000 in
theorem gX11_asksAll_X11_knows : GoodIn wsX11_asksAll (wsV RX11 207 RX11 yX11_knows wsX11_knows) := goodIn_app (goodIn_of _ (by decide +kernel)) ggX11_asksAll_X11_knows
theorem dX11_asksAll_0 : decode cX11_asksAll 0 = .ok (.aload_n 0, 1) := by decide +kernel
theorem dX11_asksAll_1 : decode cX11_asksAll 1 = .ok (.iload_n 1, 1) := by decide +kernel
theorem dX11_asksAll_2 : decode cX11_asksAll 2 = .ok (.invokestatic 146, 3) := by decide +kernel
theorem dX11_asksAll_5 : decode cX11_asksAll 5 = .ok (.invokevirtual 66, 3) := by decide +kernel
theorem dX11_asksAll_8 : decode cX11_asksAll 8 = .ok (.ifCond .eq 8, 3) := by decide +kernel
theorem dX11_asksAll_11 : decode cX11_asksAll 11 = .ok (.aload_n 0, 1) := by decide +kernel
theorem dX11_asksAll_12 : decode cX11_asksAll 12 = .ok (.iload_n 1, 1) := by decide +kernel
theorem dX11_asksAll_13 : decode cX11_asksAll 13 = .ok (.invokevirtual 207, 3) := by decide +kernel
theorem dX11_asksAll_16 : decode cX11_asksAll 16 = .ok (.aload_n 0, 1) := by decide +kernel
theorem dX11_asksAll_17 : decode cX11_asksAll 17 = .ok (.getfield 59, 3) := by decide +kernel
theorem dX11_asksAll_20 : decode cX11_asksAll 20 = .ok (.ifCond .ne 7, 3) := by decide +kernel
theorem dX11_asksAll_23 : decode cX11_asksAll 23 = .ok (.iconst 1, 1) := by decide +kernel
theorem dX11_asksAll_24 : decode cX11_asksAll 24 = .ok (.goto 4, 3) := by decide +kernel
theorem dX11_asksAll_27 : decode cX11_asksAll 27 = .ok (.iconst 0, 1) := by decide +kernel
theorem dX11_asksAll_28 : decode cX11_asksAll 28 = .ok (.ireturn, 1) := by decide +kernel
set_option maxRecDepth 20000 in
theorem ggX11_bansOf_X11_asksAll : GoodIn wsX11_bansOf wsX11_asksAll := goodIn_r _ [7, 8, 9, 10, 6, 11, 12, 13, 14, 15, 16, 17, 18, 19, 20, 21, 22, 1, 2, 23, 24, 25, 26, 27, 28, 29, 30, 31, 32, 33, 34, 35, 36, 37, 38, 39, 40, 41, 42, 43, 44, 45, 46, 47, 48, 49, 50, 51, 52, 53, 54, 55, 56, 57, 58, 59, 60, 61, 62, 63, 64, 65, 66, 67, 68, 69, 70, 71, 72, 73, 74, 75, 76, 77, 78, 79, 80, 81, 82, 83, 84, 85, 86, 87, 88, 89, 90, 91, 92, 93, 94, 95, 96, 97, 98, 99, 100, 101] (by decide +kernel) (by decide +kernel)
set_option maxRecDepth 20000 in
theorem gX11_bansOf_X11_asksAll : GoodIn wsX11_bansOf (wsV RX11 217 RX11 yX11_asksAll wsX11_asksAll) := goodIn_app (goodIn_of _ (by decide +kernel)) ggX11_bansOf_X11_asksAll
theorem dX11_bansOf_0 : decode cX11_bansOf 0 = .ok (.iconst 0, 1) := by decide +kernel
theorem dX11_bansOf_1 : decode cX11_bansOf 1 = .ok (.istore_n 2, 1) := by decide +kernel
theorem dX11_bansOf_2 : decode cX11_bansOf 2 = .ok (.aload_n 0, 1) := by decide +kernel
theorem dX11_bansOf_3 : decode cX11_bansOf 3 = .ok (.iload_n 1, 1) := by decide +kernel
theorem dX11_bansOf_4 : decode cX11_bansOf 4 = .ok (.invokevirtual 217, 3) := by decide +kernel
theorem dX11_bansOf_7 : decode cX11_bansOf 7 = .ok (.istore_n 3, 1) := by decide +kernel
theorem dX11_bansOf_8 : decode cX11_bansOf 8 = .ok (.iconst 0, 1) := by decide +kernel
theorem dX11_bansOf_9 : decode cX11_bansOf 9 = .ok (.istore 4, 2) := by decide +kernel
theorem dX11_bansOf_11 : decode cX11_bansOf 11 = .ok (.iload_n 3, 1) := by decide +kernel
theorem dX11_bansOf_12 : decode cX11_bansOf 12 = .ok (.ifCond .eq 45, 3) := by decide +kernel
theorem dX11_bansOf_15 : decode cX11_bansOf 15 = .ok (.iload 4, 2) := by decide +kernel
theorem dX11_bansOf_17 : decode cX11_bansOf 17 = .ok (.aload_n 0, 1) := by decide +kernel
theorem dX11_bansOf_18 : decode cX11_bansOf 18 = .ok (.getfield 7, 3) := by decide +kernel
theorem dX11_bansOf_21 : decode cX11_bansOf 21 = .ok (.iconst 0, 1) := by decide +kernel
theorem dX11_bansOf_22 : decode cX11_bansOf 22 = .ok (.iaload, 1) := by decide +kernel
theorem dX11_bansOf_23 : decode cX11_bansOf 23 = .ok (.if_icmp .ge 34, 3) := by decide +kernel
theorem dX11_bansOf_26 : decode cX11_bansOf 26 = .ok (.iload_n 2, 1) := by decide +kernel
theorem dX11_bansOf_27 : decode cX11_bansOf 27 = .ok (.aload_n 0, 1) := by decide +kernel
theorem dX11_bansOf_28 : decode cX11_bansOf 28 = .ok (.getfield 32, 3) := by decide +kernel
theorem dX11_bansOf_31 : decode cX11_bansOf 31 = .ok (.sipush 199, 3) := by decide +kernel
theorem dX11_bansOf_34 : decode cX11_bansOf 34 = .ok (.iload_n 1, 1) := by decide +kernel
theorem dX11_bansOf_35 : decode cX11_bansOf 35 = .ok (.imul, 1) := by decide +kernel
theorem dX11_bansOf_36 : decode cX11_bansOf 36 = .ok (.iload 4, 2) := by decide +kernel
theorem dX11_bansOf_38 : decode cX11_bansOf 38 = .ok (.iadd, 1) := by decide +kernel
theorem dX11_bansOf_39 : decode cX11_bansOf 39 = .ok (.iaload, 1) := by decide +kernel
theorem dX11_bansOf_40 : decode cX11_bansOf 40 = .ok (.iconst (-1), 1) := by decide +kernel
theorem dX11_bansOf_41 : decode cX11_bansOf 41 = .ok (.if_icmp .ne 7, 3) := by decide +kernel
theorem dX11_bansOf_44 : decode cX11_bansOf 44 = .ok (.iconst 1, 1) := by decide +kernel
theorem dX11_bansOf_45 : decode cX11_bansOf 45 = .ok (.goto 4, 3) := by decide +kernel
theorem dX11_bansOf_48 : decode cX11_bansOf 48 = .ok (.iconst 0, 1) := by decide +kernel
theorem dX11_bansOf_49 : decode cX11_bansOf 49 = .ok (.iadd, 1) := by decide +kernel
theorem dX11_bansOf_50 : decode cX11_bansOf 50 = .ok (.istore_n 2, 1) := by decide +kernel
theorem dX11_bansOf_51 : decode cX11_bansOf 51 = .ok (.iinc 4 1, 3) := by decide +kernel
theorem dX11_bansOf_54 : decode cX11_bansOf 54 = .ok (.goto (-43), 3) := by decide +kernel
theorem dX11_bansOf_57 : decode cX11_bansOf 57 = .ok (.iload_n 2, 1) := by decide +kernel
theorem dX11_bansOf_58 : decode cX11_bansOf 58 = .ok (.ireturn, 1) := by decide +kernel
theorem dX11_isFlat_0 : decode cX11_isFlat 0 = .ok (.aload_n 0, 1) := by decide +kernel
theorem dX11_isFlat_1 : decode cX11_isFlat 1 = .ok (.getfield 32, 3) := by decide +kernel
theorem dX11_isFlat_4 : decode cX11_isFlat 4 = .ok (.sipush 199, 3) := by decide +kernel
theorem dX11_isFlat_7 : decode cX11_isFlat 7 = .ok (.iload_n 1, 1) := by decide +kernel
theorem dX11_isFlat_8 : decode cX11_isFlat 8 = .ok (.imul, 1) := by decide +kernel
theorem dX11_isFlat_9 : decode cX11_isFlat 9 = .ok (.iload_n 2, 1) := by decide +kernel
theorem dX11_isFlat_10 : decode cX11_isFlat 10 = .ok (.iadd, 1) := by decide +kernel
theorem dX11_isFlat_11 : decode cX11_isFlat 11 = .ok (.iaload, 1) := by decide +kernel
theorem dX11_isFlat_12 : decode cX11_isFlat 12 = .ok (.iconst (-1), 1) := by decide +kernel
theorem dX11_isFlat_13 : decode cX11_isFlat 13 = .ok (.if_icmp .eq 22, 3) := by decide +kernel
theorem dX11_isFlat_16 : decode cX11_isFlat 16 = .ok (.aload_n 0, 1) := by decide +kernel
theorem dX11_isFlat_17 : decode cX11_isFlat 17 = .ok (.getfield 38, 3) := by decide +kernel
theorem dX11_isFlat_20 : decode cX11_isFlat 20 = .ok (.sipush 199, 3) := by decide +kernel
theorem dX11_isFlat_23 : decode cX11_isFlat 23 = .ok (.iload_n 1, 1) := by decide +kernel
theorem dX11_isFlat_24 : decode cX11_isFlat 24 = .ok (.imul, 1) := by decide +kernel
theorem dX11_isFlat_25 : decode cX11_isFlat 25 = .ok (.iload_n 2, 1) := by decide +kernel
theorem dX11_isFlat_26 : decode cX11_isFlat 26 = .ok (.iadd, 1) := by decide +kernel
theorem dX11_isFlat_27 : decode cX11_isFlat 27 = .ok (.iaload, 1) := by decide +kernel
theorem dX11_isFlat_28 : decode cX11_isFlat 28 = .ok (.ifCond .ne 7, 3) := by decide +kernel
theorem dX11_isFlat_31 : decode cX11_isFlat 31 = .ok (.iconst 1, 1) := by decide +kernel
theorem dX11_isFlat_32 : decode cX11_isFlat 32 = .ok (.goto 4, 3) := by decide +kernel
theorem dX11_isFlat_35 : decode cX11_isFlat 35 = .ok (.iconst 0, 1) := by decide +kernel
theorem dX11_isFlat_36 : decode cX11_isFlat 36 = .ok (.ireturn, 1) := by decide +kernel
set_option maxRecDepth 20000 in
theorem ggX11_flatsOf_X11_asksAll : GoodIn wsX11_flatsOf wsX11_asksAll := goodIn_r _ [6, 7, 8, 9, 5, 10, 11, 12, 13, 14, 15, 16, 17, 18, 19, 20, 21, 1, 22, 23, 24, 25, 26, 27, 28, 29, 30, 31, 32, 33, 34, 35, 36, 37, 38, 39, 40, 41, 42, 43, 44, 45, 46, 47, 48, 49, 50, 51, 52, 53, 54, 55, 56, 57, 58, 59, 60, 61, 62, 63, 64, 65, 66, 67, 68, 69, 70, 71, 72, 73, 74, 75, 80, 81, 82, 83, 84, 85, 86, 87, 88, 89, 90, 91, 92, 93, 94, 95, 96, 97, 98, 99, 100, 101, 102, 103, 104, 105] (by decide +kernel) (by decide +kernel)
set_option maxRecDepth 20000 in
theorem gX11_flatsOf_X11_asksAll : GoodIn wsX11_flatsOf (wsV RX11 217 RX11 yX11_asksAll wsX11_asksAll) := goodIn_app (goodIn_of _ (by decide +kernel)) ggX11_flatsOf_X11_asksAll
set_option maxRecDepth 20000 in
theorem ggX11_flatsOf_X11_isFlat : GoodIn wsX11_flatsOf wsX11_isFlat := goodIn_r _ [79, 22, 27, 80, 81, 82, 83, 84, 85, 86, 87, 88, 89, 90, 91, 92, 93, 94, 95, 96, 97, 98, 99, 100, 101, 102, 103, 104, 105] (by decide +kernel) (by decide +kernel)
set_option maxRecDepth 20000 in
theorem gX11_flatsOf_X11_isFlat : GoodIn wsX11_flatsOf (wsV RX11 220 RX11 yX11_isFlat wsX11_isFlat) := goodIn_app (goodIn_of _ (by decide +kernel)) ggX11_flatsOf_X11_isFlat
theorem dX11_flatsOf_0 : decode cX11_flatsOf 0 = .ok (.iconst 0, 1) := by decide +kernel
theorem dX11_flatsOf_1 : decode cX11_flatsOf 1 = .ok (.istore_n 2, 1) := by decide +kernel
theorem dX11_flatsOf_2 : decode cX11_flatsOf 2 = .ok (.aload_n 0, 1) := by decide +kernel
theorem dX11_flatsOf_3 : decode cX11_flatsOf 3 = .ok (.iload_n 1, 1) := by decide +kernel
theorem dX11_flatsOf_4 : decode cX11_flatsOf 4 = .ok (.invokevirtual 217, 3) := by decide +kernel
theorem dX11_flatsOf_7 : decode cX11_flatsOf 7 = .ok (.istore_n 3, 1) := by decide +kernel
theorem dX11_flatsOf_8 : decode cX11_flatsOf 8 = .ok (.iconst 0, 1) := by decide +kernel
theorem dX11_flatsOf_9 : decode cX11_flatsOf 9 = .ok (.istore 4, 2) := by decide +kernel
theorem dX11_flatsOf_11 : decode cX11_flatsOf 11 = .ok (.iload_n 3, 1) := by decide +kernel
theorem dX11_flatsOf_12 : decode cX11_flatsOf 12 = .ok (.ifCond .eq 38, 3) := by decide +kernel
theorem dX11_flatsOf_15 : decode cX11_flatsOf 15 = .ok (.iload 4, 2) := by decide +kernel
theorem dX11_flatsOf_17 : decode cX11_flatsOf 17 = .ok (.aload_n 0, 1) := by decide +kernel
theorem dX11_flatsOf_18 : decode cX11_flatsOf 18 = .ok (.getfield 7, 3) := by decide +kernel
theorem dX11_flatsOf_21 : decode cX11_flatsOf 21 = .ok (.iconst 0, 1) := by decide +kernel
theorem dX11_flatsOf_22 : decode cX11_flatsOf 22 = .ok (.iaload, 1) := by decide +kernel
theorem dX11_flatsOf_23 : decode cX11_flatsOf 23 = .ok (.if_icmp .ge 27, 3) := by decide +kernel
theorem dX11_flatsOf_26 : decode cX11_flatsOf 26 = .ok (.iload_n 2, 1) := by decide +kernel
theorem dX11_flatsOf_27 : decode cX11_flatsOf 27 = .ok (.aload_n 0, 1) := by decide +kernel
theorem dX11_flatsOf_28 : decode cX11_flatsOf 28 = .ok (.iload_n 1, 1) := by decide +kernel
theorem dX11_flatsOf_29 : decode cX11_flatsOf 29 = .ok (.iload 4, 2) := by decide +kernel
theorem dX11_flatsOf_31 : decode cX11_flatsOf 31 = .ok (.invokevirtual 220, 3) := by decide +kernel
theorem dX11_flatsOf_34 : decode cX11_flatsOf 34 = .ok (.ifCond .eq 7, 3) := by decide +kernel
theorem dX11_flatsOf_37 : decode cX11_flatsOf 37 = .ok (.iconst 1, 1) := by decide +kernel
theorem dX11_flatsOf_38 : decode cX11_flatsOf 38 = .ok (.goto 4, 3) := by decide +kernel
theorem dX11_flatsOf_41 : decode cX11_flatsOf 41 = .ok (.iconst 0, 1) := by decide +kernel
theorem dX11_flatsOf_42 : decode cX11_flatsOf 42 = .ok (.iadd, 1) := by decide +kernel
theorem dX11_flatsOf_43 : decode cX11_flatsOf 43 = .ok (.istore_n 2, 1) := by decide +kernel
theorem dX11_flatsOf_44 : decode cX11_flatsOf 44 = .ok (.iinc 4 1, 3) := by decide +kernel
theorem dX11_flatsOf_47 : decode cX11_flatsOf 47 = .ok (.goto (-36), 3) := by decide +kernel
theorem dX11_flatsOf_50 : decode cX11_flatsOf 50 = .ok (.iload_n 2, 1) := by decide +kernel
theorem dX11_flatsOf_51 : decode cX11_flatsOf 51 = .ok (.ireturn, 1) := by decide +kernel
set_option maxRecDepth 20000 in
theorem ggX11_firstFlat_X11_asksAll : GoodIn wsX11_firstFlat wsX11_asksAll := goodIn_r _ [6, 7, 8, 9, 5, 10, 11, 12, 13, 14, 15, 16, 17, 18, 19, 20, 21, 1, 22, 23, 24, 25, 26, 27, 28, 29, 30, 31, 32, 33, 34, 35, 36, 37, 38, 39, 40, 41, 42, 43, 44, 45, 46, 47, 48, 49, 50, 51, 52, 53, 54, 55, 56, 57, 58, 59, 60, 61, 62, 63, 64, 65, 66, 67, 68, 69, 70, 71, 72, 73, 74, 75, 80, 81, 82, 83, 84, 85, 86, 87, 88, 89, 90, 91, 92, 93, 94, 95, 96, 97, 98, 99, 100, 101, 102, 103, 104, 105] (by decide +kernel) (by decide +kernel)
set_option maxRecDepth 20000 in
theorem gX11_firstFlat_X11_asksAll : GoodIn wsX11_firstFlat (wsV RX11 217 RX11 yX11_asksAll wsX11_asksAll) := goodIn_app (goodIn_of _ (by decide +kernel)) ggX11_firstFlat_X11_asksAll
set_option maxRecDepth 20000 in
theorem ggX11_firstFlat_X11_isFlat : GoodIn wsX11_firstFlat wsX11_isFlat := goodIn_r _ [79, 22, 27, 80, 81, 82, 83, 84, 85, 86, 87, 88, 89, 90, 91, 92, 93, 94, 95, 96, 97, 98, 99, 100, 101, 102, 103, 104, 105] (by decide +kernel) (by decide +kernel)
set_option maxRecDepth 20000 in
theorem gX11_firstFlat_X11_isFlat : GoodIn wsX11_firstFlat (wsV RX11 220 RX11 yX11_isFlat wsX11_isFlat) := goodIn_app (goodIn_of _ (by decide +kernel)) ggX11_firstFlat_X11_isFlat
theorem dX11_firstFlat_0 : decode cX11_firstFlat 0 = .ok (.aload_n 0, 1) := by decide +kernel
theorem dX11_firstFlat_1 : decode cX11_firstFlat 1 = .ok (.iload_n 1, 1) := by decide +kernel
theorem dX11_firstFlat_2 : decode cX11_firstFlat 2 = .ok (.invokevirtual 217, 3) := by decide +kernel
theorem dX11_firstFlat_5 : decode cX11_firstFlat 5 = .ok (.ifCond .ne 5, 3) := by decide +kernel
theorem dX11_firstFlat_8 : decode cX11_firstFlat 8 = .ok (.iconst 0, 1) := by decide +kernel
theorem dX11_firstFlat_9 : decode cX11_firstFlat 9 = .ok (.ireturn, 1) := by decide +kernel
theorem dX11_firstFlat_10 : decode cX11_firstFlat 10 = .ok (.iconst 0, 1) := by decide +kernel
theorem dX11_firstFlat_11 : decode cX11_firstFlat 11 = .ok (.istore_n 2, 1) := by decide +kernel
theorem dX11_firstFlat_12 : decode cX11_firstFlat 12 = .ok (.iload_n 2, 1) := by decide +kernel
theorem dX11_firstFlat_13 : decode cX11_firstFlat 13 = .ok (.aload_n 0, 1) := by decide +kernel
theorem dX11_firstFlat_14 : decode cX11_firstFlat 14 = .ok (.getfield 7, 3) := by decide +kernel
theorem dX11_firstFlat_17 : decode cX11_firstFlat 17 = .ok (.iconst 0, 1) := by decide +kernel
theorem dX11_firstFlat_18 : decode cX11_firstFlat 18 = .ok (.iaload, 1) := by decide +kernel
theorem dX11_firstFlat_19 : decode cX11_firstFlat 19 = .ok (.if_icmp .ge 18, 3) := by decide +kernel
theorem dX11_firstFlat_22 : decode cX11_firstFlat 22 = .ok (.aload_n 0, 1) := by decide +kernel
theorem dX11_firstFlat_23 : decode cX11_firstFlat 23 = .ok (.iload_n 1, 1) := by decide +kernel
theorem dX11_firstFlat_24 : decode cX11_firstFlat 24 = .ok (.iload_n 2, 1) := by decide +kernel
theorem dX11_firstFlat_25 : decode cX11_firstFlat 25 = .ok (.invokevirtual 220, 3) := by decide +kernel
theorem dX11_firstFlat_28 : decode cX11_firstFlat 28 = .ok (.ifCond .ne 9, 3) := by decide +kernel
theorem dX11_firstFlat_31 : decode cX11_firstFlat 31 = .ok (.iinc 2 1, 3) := by decide +kernel
theorem dX11_firstFlat_34 : decode cX11_firstFlat 34 = .ok (.goto (-22), 3) := by decide +kernel
theorem dX11_firstFlat_37 : decode cX11_firstFlat 37 = .ok (.iload_n 2, 1) := by decide +kernel
theorem dX11_firstFlat_38 : decode cX11_firstFlat 38 = .ok (.aload_n 0, 1) := by decide +kernel
theorem dX11_firstFlat_39 : decode cX11_firstFlat 39 = .ok (.getfield 7, 3) := by decide +kernel
theorem dX11_firstFlat_42 : decode cX11_firstFlat 42 = .ok (.iconst 0, 1) := by decide +kernel
theorem dX11_firstFlat_43 : decode cX11_firstFlat 43 = .ok (.iaload, 1) := by decide +kernel
theorem dX11_firstFlat_44 : decode cX11_firstFlat 44 = .ok (.if_icmp .ge 7, 3) := by decide +kernel
theorem dX11_firstFlat_47 : decode cX11_firstFlat 47 = .ok (.iload_n 2, 1) := by decide +kernel
theorem dX11_firstFlat_48 : decode cX11_firstFlat 48 = .ok (.goto 4, 3) := by decide +kernel
theorem dX11_firstFlat_51 : decode cX11_firstFlat 51 = .ok (.iconst (-1), 1) := by decide +kernel
theorem dX11_firstFlat_52 : decode cX11_firstFlat 52 = .ok (.ireturn, 1) := by decide +kernel
set_option maxRecDepth 20000 in
theorem ggX11_rootsOf_X11_asksAll : GoodIn wsX11_rootsOf wsX11_asksAll := goodIn_r _ [7, 8, 9, 10, 6, 11, 12, 13, 14, 15, 16, 17, 18, 19, 20, 21, 22, 1, 2, 23, 24, 25, 26, 27, 28, 29, 30, 31, 32, 33, 34, 35, 36, 37, 38, 39, 40, 41, 42, 43, 44, 45, 46, 47, 48, 49, 50, 51, 52, 53, 54, 55, 56, 57, 58, 59, 60, 61, 62, 63, 64, 65, 66, 67, 68, 69, 70, 71, 72, 73, 74, 75, 76, 77, 78, 79, 80, 81, 82, 83, 84, 85, 86, 87, 88, 89, 90, 91, 92, 93, 94, 95, 96, 97, 98, 99, 100, 101] (by decide +kernel) (by decide +kernel)
set_option maxRecDepth 20000 in
theorem gX11_rootsOf_X11_asksAll : GoodIn wsX11_rootsOf (wsV RX11 217 RX11 yX11_asksAll wsX11_asksAll) := goodIn_app (goodIn_of _ (by decide +kernel)) ggX11_rootsOf_X11_asksAll
theorem dX11_rootsOf_0 : decode cX11_rootsOf 0 = .ok (.iconst 0, 1) := by decide +kernel
theorem dX11_rootsOf_1 : decode cX11_rootsOf 1 = .ok (.istore_n 2, 1) := by decide +kernel
theorem dX11_rootsOf_2 : decode cX11_rootsOf 2 = .ok (.aload_n 0, 1) := by decide +kernel
theorem dX11_rootsOf_3 : decode cX11_rootsOf 3 = .ok (.iload_n 1, 1) := by decide +kernel
theorem dX11_rootsOf_4 : decode cX11_rootsOf 4 = .ok (.invokevirtual 217, 3) := by decide +kernel
theorem dX11_rootsOf_7 : decode cX11_rootsOf 7 = .ok (.istore_n 3, 1) := by decide +kernel
theorem dX11_rootsOf_8 : decode cX11_rootsOf 8 = .ok (.iconst 0, 1) := by decide +kernel
theorem dX11_rootsOf_9 : decode cX11_rootsOf 9 = .ok (.istore 4, 2) := by decide +kernel
theorem dX11_rootsOf_11 : decode cX11_rootsOf 11 = .ok (.iload_n 3, 1) := by decide +kernel
theorem dX11_rootsOf_12 : decode cX11_rootsOf 12 = .ok (.ifCond .eq 44, 3) := by decide +kernel
theorem dX11_rootsOf_15 : decode cX11_rootsOf 15 = .ok (.iload 4, 2) := by decide +kernel
theorem dX11_rootsOf_17 : decode cX11_rootsOf 17 = .ok (.aload_n 0, 1) := by decide +kernel
theorem dX11_rootsOf_18 : decode cX11_rootsOf 18 = .ok (.getfield 7, 3) := by decide +kernel
theorem dX11_rootsOf_21 : decode cX11_rootsOf 21 = .ok (.iconst 0, 1) := by decide +kernel
theorem dX11_rootsOf_22 : decode cX11_rootsOf 22 = .ok (.iaload, 1) := by decide +kernel
theorem dX11_rootsOf_23 : decode cX11_rootsOf 23 = .ok (.if_icmp .ge 33, 3) := by decide +kernel
theorem dX11_rootsOf_26 : decode cX11_rootsOf 26 = .ok (.iload_n 2, 1) := by decide +kernel
theorem dX11_rootsOf_27 : decode cX11_rootsOf 27 = .ok (.aload_n 0, 1) := by decide +kernel
theorem dX11_rootsOf_28 : decode cX11_rootsOf 28 = .ok (.getfield 32, 3) := by decide +kernel
theorem dX11_rootsOf_31 : decode cX11_rootsOf 31 = .ok (.sipush 199, 3) := by decide +kernel
theorem dX11_rootsOf_34 : decode cX11_rootsOf 34 = .ok (.iload_n 1, 1) := by decide +kernel
theorem dX11_rootsOf_35 : decode cX11_rootsOf 35 = .ok (.imul, 1) := by decide +kernel
theorem dX11_rootsOf_36 : decode cX11_rootsOf 36 = .ok (.iload 4, 2) := by decide +kernel
theorem dX11_rootsOf_38 : decode cX11_rootsOf 38 = .ok (.iadd, 1) := by decide +kernel
theorem dX11_rootsOf_39 : decode cX11_rootsOf 39 = .ok (.iaload, 1) := by decide +kernel
theorem dX11_rootsOf_40 : decode cX11_rootsOf 40 = .ok (.ifCond .ne 7, 3) := by decide +kernel
theorem dX11_rootsOf_43 : decode cX11_rootsOf 43 = .ok (.iconst 1, 1) := by decide +kernel
theorem dX11_rootsOf_44 : decode cX11_rootsOf 44 = .ok (.goto 4, 3) := by decide +kernel
theorem dX11_rootsOf_47 : decode cX11_rootsOf 47 = .ok (.iconst 0, 1) := by decide +kernel
theorem dX11_rootsOf_48 : decode cX11_rootsOf 48 = .ok (.iadd, 1) := by decide +kernel
theorem dX11_rootsOf_49 : decode cX11_rootsOf 49 = .ok (.istore_n 2, 1) := by decide +kernel
theorem dX11_rootsOf_50 : decode cX11_rootsOf 50 = .ok (.iinc 4 1, 3) := by decide +kernel
theorem dX11_rootsOf_53 : decode cX11_rootsOf 53 = .ok (.goto (-42), 3) := by decide +kernel
theorem dX11_rootsOf_56 : decode cX11_rootsOf 56 = .ok (.iload_n 2, 1) := by decide +kernel
theorem dX11_rootsOf_57 : decode cX11_rootsOf 57 = .ok (.ireturn, 1) := by decide +kernel
set_option maxRecDepth 20000 in
theorem ggX11_isSame_X11_isFunction : GoodIn wsX11_isSame wsX11_isFunction := goodIn_r _ [6, 7, 8, 5, 9] (by decide +kernel) (by decide +kernel)
set_option maxRecDepth 20000 in
theorem gX11_isSame_X11_isFunction : GoodIn wsX11_isSame (va_wsS RX11 146 yX11_isFunction wsX11_isFunction) := goodIn_app (goodIn_of _ (by decide +kernel)) ggX11_isSame_X11_isFunction
set_option maxRecDepth 20000 in
theorem ggX11_isSame_X11_asks : GoodIn wsX11_isSame wsX11_asks := goodIn_r _ [13, 14, 72, 73, 74, 75, 76, 77, 78, 79, 80, 81, 82, 83, 84, 85, 86, 87, 88, 89, 90, 91, 92, 93, 94, 95, 96, 97] (by decide +kernel) (by decide +kernel)
set_option maxRecDepth 20000 in
theorem gX11_isSame_X11_asks : GoodIn wsX11_isSame (wsV RX11 66 RX11 yX11_asks wsX11_asks) := goodIn_app (goodIn_of _ (by decide +kernel)) ggX11_isSame_X11_asks
set_option maxRecDepth 20000 in
theorem ggX11_isSame_X11_knows : GoodIn wsX11_isSame wsX11_knows := goodIn_r _ [18, 1, 2, 19, 20, 21, 22, 23, 24, 25, 26, 5, 27, 28, 29, 30, 31, 32, 33, 34, 35, 36, 37, 38, 39, 40, 41, 42, 43, 44, 45, 46, 47, 48, 49, 50, 51, 52, 53, 54, 55, 56, 57, 58, 59, 60, 61, 62, 63, 64, 65, 66, 67, 68, 69, 70, 71, 72, 73, 74, 75, 76, 77, 78, 79, 80, 81, 82, 83, 84, 85, 86, 87, 88, 89, 90, 91, 92, 93, 94, 95, 96, 97] (by decide +kernel) (by decide +kernel)
set_option maxRecDepth 20000 in
theorem gX11_isSame_X11_knows : GoodIn wsX11_isSame (wsV RX11 207 RX11 yX11_knows wsX11_knows) := goodIn_app (goodIn_of _ (by decide +kernel)) ggX11_isSame_X11_knows
theorem dX11_isSame_0 : decode cX11_isSame 0 = .ok (.aload_n 0, 1) := by decide +kernel
theorem dX11_isSame_1 : decode cX11_isSame 1 = .ok (.iload_n 1, 1) := by decide +kernel
theorem dX11_isSame_2 : decode cX11_isSame 2 = .ok (.invokestatic 146, 3) := by decide +kernel
theorem dX11_isSame_5 : decode cX11_isSame 5 = .ok (.ifCond .eq 14, 3) := by decide +kernel
theorem dX11_isSame_8 : decode cX11_isSame 8 = .ok (.iload_n 2, 1) := by decide +kernel
theorem dX11_isSame_9 : decode cX11_isSame 9 = .ok (.invokestatic 146, 3) := by decide +kernel
theorem dX11_isSame_12 : decode cX11_isSame 12 = .ok (.ifCond .eq 7, 3) := by decide +kernel
theorem dX11_isSame_15 : decode cX11_isSame 15 = .ok (.iconst 1, 1) := by decide +kernel
theorem dX11_isSame_16 : decode cX11_isSame 16 = .ok (.goto 4, 3) := by decide +kernel
theorem dX11_isSame_19 : decode cX11_isSame 19 = .ok (.iconst 0, 1) := by decide +kernel
theorem dX11_isSame_20 : decode cX11_isSame 20 = .ok (.invokevirtual 66, 3) := by decide +kernel
theorem dX11_isSame_23 : decode cX11_isSame 23 = .ok (.ifCond .ne 5, 3) := by decide +kernel
theorem dX11_isSame_26 : decode cX11_isSame 26 = .ok (.iconst 0, 1) := by decide +kernel
theorem dX11_isSame_27 : decode cX11_isSame 27 = .ok (.ireturn, 1) := by decide +kernel
theorem dX11_isSame_28 : decode cX11_isSame 28 = .ok (.aload_n 0, 1) := by decide +kernel
theorem dX11_isSame_29 : decode cX11_isSame 29 = .ok (.iload_n 1, 1) := by decide +kernel
theorem dX11_isSame_30 : decode cX11_isSame 30 = .ok (.iload_n 2, 1) := by decide +kernel
theorem dX11_isSame_31 : decode cX11_isSame 31 = .ok (.if_icmp .le 7, 3) := by decide +kernel
theorem dX11_isSame_34 : decode cX11_isSame 34 = .ok (.iload_n 1, 1) := by decide +kernel
theorem dX11_isSame_35 : decode cX11_isSame 35 = .ok (.goto 4, 3) := by decide +kernel
theorem dX11_isSame_38 : decode cX11_isSame 38 = .ok (.iload_n 2, 1) := by decide +kernel
theorem dX11_isSame_39 : decode cX11_isSame 39 = .ok (.invokevirtual 207, 3) := by decide +kernel
theorem dX11_isSame_42 : decode cX11_isSame 42 = .ok (.iconst 1, 1) := by decide +kernel
theorem dX11_isSame_43 : decode cX11_isSame 43 = .ok (.istore_n 3, 1) := by decide +kernel
theorem dX11_isSame_44 : decode cX11_isSame 44 = .ok (.iconst 0, 1) := by decide +kernel
theorem dX11_isSame_45 : decode cX11_isSame 45 = .ok (.istore 4, 2) := by decide +kernel
theorem dX11_isSame_47 : decode cX11_isSame 47 = .ok (.iload 4, 2) := by decide +kernel
theorem dX11_isSame_49 : decode cX11_isSame 49 = .ok (.aload_n 0, 1) := by decide +kernel
theorem dX11_isSame_50 : decode cX11_isSame 50 = .ok (.getfield 7, 3) := by decide +kernel
theorem dX11_isSame_53 : decode cX11_isSame 53 = .ok (.iconst 0, 1) := by decide +kernel
theorem dX11_isSame_54 : decode cX11_isSame 54 = .ok (.iaload, 1) := by decide +kernel
theorem dX11_isSame_55 : decode cX11_isSame 55 = .ok (.if_icmp .ge 48, 3) := by decide +kernel
theorem dX11_isSame_58 : decode cX11_isSame 58 = .ok (.iload_n 3, 1) := by decide +kernel
theorem dX11_isSame_59 : decode cX11_isSame 59 = .ok (.ifCond .eq 36, 3) := by decide +kernel
theorem dX11_isSame_62 : decode cX11_isSame 62 = .ok (.aload_n 0, 1) := by decide +kernel
theorem dX11_isSame_63 : decode cX11_isSame 63 = .ok (.getfield 32, 3) := by decide +kernel
theorem dX11_isSame_66 : decode cX11_isSame 66 = .ok (.sipush 199, 3) := by decide +kernel
theorem dX11_isSame_69 : decode cX11_isSame 69 = .ok (.iload_n 1, 1) := by decide +kernel
theorem dX11_isSame_70 : decode cX11_isSame 70 = .ok (.imul, 1) := by decide +kernel
theorem dX11_isSame_71 : decode cX11_isSame 71 = .ok (.iload 4, 2) := by decide +kernel
theorem dX11_isSame_73 : decode cX11_isSame 73 = .ok (.iadd, 1) := by decide +kernel
theorem dX11_isSame_74 : decode cX11_isSame 74 = .ok (.iaload, 1) := by decide +kernel
theorem dX11_isSame_75 : decode cX11_isSame 75 = .ok (.aload_n 0, 1) := by decide +kernel
theorem dX11_isSame_76 : decode cX11_isSame 76 = .ok (.getfield 32, 3) := by decide +kernel
theorem dX11_isSame_79 : decode cX11_isSame 79 = .ok (.sipush 199, 3) := by decide +kernel
theorem dX11_isSame_82 : decode cX11_isSame 82 = .ok (.iload_n 2, 1) := by decide +kernel
theorem dX11_isSame_83 : decode cX11_isSame 83 = .ok (.imul, 1) := by decide +kernel
theorem dX11_isSame_84 : decode cX11_isSame 84 = .ok (.iload 4, 2) := by decide +kernel
theorem dX11_isSame_86 : decode cX11_isSame 86 = .ok (.iadd, 1) := by decide +kernel
theorem dX11_isSame_87 : decode cX11_isSame 87 = .ok (.iaload, 1) := by decide +kernel
theorem dX11_isSame_88 : decode cX11_isSame 88 = .ok (.if_icmp .ne 7, 3) := by decide +kernel
theorem dX11_isSame_91 : decode cX11_isSame 91 = .ok (.iconst 1, 1) := by decide +kernel
theorem dX11_isSame_92 : decode cX11_isSame 92 = .ok (.goto 4, 3) := by decide +kernel
theorem dX11_isSame_95 : decode cX11_isSame 95 = .ok (.iconst 0, 1) := by decide +kernel
theorem dX11_isSame_96 : decode cX11_isSame 96 = .ok (.istore_n 3, 1) := by decide +kernel
theorem dX11_isSame_97 : decode cX11_isSame 97 = .ok (.iinc 4 1, 3) := by decide +kernel
theorem dX11_isSame_100 : decode cX11_isSame 100 = .ok (.goto (-53), 3) := by decide +kernel
theorem dX11_isSame_103 : decode cX11_isSame 103 = .ok (.iload_n 3, 1) := by decide +kernel
theorem dX11_isSame_104 : decode cX11_isSame 104 = .ok (.ireturn, 1) := by decide +kernel
set_option maxRecDepth 20000 in
theorem ggX11_next_X11_inverse : GoodIn wsX11_next wsX11_inverse := goodIn_r _ [7, 8, 9, 10, 6, 11, 12, 13, 14, 15, 16, 17, 18, 19, 20, 21, 22, 23, 24, 25, 26, 27, 28, 29, 30, 31, 32, 33, 34, 35, 36, 37, 38] (by decide +kernel) (by decide +kernel)
set_option maxRecDepth 20000 in
theorem gX11_next_X11_inverse : GoodIn wsX11_next (wsV RX11 188 RX11 yX11_inverse wsX11_inverse) := goodIn_app (goodIn_of _ (by decide +kernel)) ggX11_next_X11_inverse
set_option maxRecDepth 20000 in
theorem ggX11_next_X11_p : GoodIn wsX11_next wsX11_p := goodIn_r _ [11, 12, 13, 14, 15, 16, 17, 18, 19, 20, 21, 22, 23, 24, 25, 26, 27, 28, 29, 30, 31, 32, 33, 34, 35, 36, 37, 38] (by decide +kernel) (by decide +kernel)
set_option maxRecDepth 20000 in
theorem gX11_next_X11_p : GoodIn wsX11_next (wsV RX11 182 RX11 yX11_p wsX11_p) := goodIn_app (goodIn_of _ (by decide +kernel)) ggX11_next_X11_p
theorem dX11_next_0 : decode cX11_next 0 = .ok (.aload_n 0, 1) := by decide +kernel
theorem dX11_next_1 : decode cX11_next 1 = .ok (.getfield 32, 3) := by decide +kernel
theorem dX11_next_4 : decode cX11_next 4 = .ok (.sipush 199, 3) := by decide +kernel
theorem dX11_next_7 : decode cX11_next 7 = .ok (.iload_n 1, 1) := by decide +kernel
theorem dX11_next_8 : decode cX11_next 8 = .ok (.imul, 1) := by decide +kernel
theorem dX11_next_9 : decode cX11_next 9 = .ok (.iload_n 2, 1) := by decide +kernel
theorem dX11_next_10 : decode cX11_next 10 = .ok (.iadd, 1) := by decide +kernel
theorem dX11_next_11 : decode cX11_next 11 = .ok (.iaload, 1) := by decide +kernel
theorem dX11_next_12 : decode cX11_next 12 = .ok (.istore_n 3, 1) := by decide +kernel
theorem dX11_next_13 : decode cX11_next 13 = .ok (.aload_n 0, 1) := by decide +kernel
theorem dX11_next_14 : decode cX11_next 14 = .ok (.getfield 38, 3) := by decide +kernel
theorem dX11_next_17 : decode cX11_next 17 = .ok (.sipush 199, 3) := by decide +kernel
theorem dX11_next_20 : decode cX11_next 20 = .ok (.iload_n 1, 1) := by decide +kernel
theorem dX11_next_21 : decode cX11_next 21 = .ok (.imul, 1) := by decide +kernel
theorem dX11_next_22 : decode cX11_next 22 = .ok (.iload_n 2, 1) := by decide +kernel
theorem dX11_next_23 : decode cX11_next 23 = .ok (.iadd, 1) := by decide +kernel
theorem dX11_next_24 : decode cX11_next 24 = .ok (.iaload, 1) := by decide +kernel
theorem dX11_next_25 : decode cX11_next 25 = .ok (.istore 4, 2) := by decide +kernel
theorem dX11_next_27 : decode cX11_next 27 = .ok (.iload_n 3, 1) := by decide +kernel
theorem dX11_next_28 : decode cX11_next 28 = .ok (.iconst (-1), 1) := by decide +kernel
theorem dX11_next_29 : decode cX11_next 29 = .ok (.if_icmp .eq 8, 3) := by decide +kernel
theorem dX11_next_32 : decode cX11_next 32 = .ok (.iload 4, 2) := by decide +kernel
theorem dX11_next_34 : decode cX11_next 34 = .ok (.ifCond .ne 7, 3) := by decide +kernel
theorem dX11_next_37 : decode cX11_next 37 = .ok (.iconst (-1), 1) := by decide +kernel
theorem dX11_next_38 : decode cX11_next 38 = .ok (.goto 17, 3) := by decide +kernel
theorem dX11_next_41 : decode cX11_next 41 = .ok (.aload_n 0, 1) := by decide +kernel
theorem dX11_next_42 : decode cX11_next 42 = .ok (.iload_n 2, 1) := by decide +kernel
theorem dX11_next_43 : decode cX11_next 43 = .ok (.iload_n 3, 1) := by decide +kernel
theorem dX11_next_44 : decode cX11_next 44 = .ok (.aload_n 0, 1) := by decide +kernel
theorem dX11_next_45 : decode cX11_next 45 = .ok (.iload 4, 2) := by decide +kernel
theorem dX11_next_47 : decode cX11_next 47 = .ok (.invokevirtual 188, 3) := by decide +kernel
theorem dX11_next_50 : decode cX11_next 50 = .ok (.imul, 1) := by decide +kernel
theorem dX11_next_51 : decode cX11_next 51 = .ok (.isub, 1) := by decide +kernel
theorem dX11_next_52 : decode cX11_next 52 = .ok (.invokevirtual 182, 3) := by decide +kernel
theorem dX11_next_55 : decode cX11_next 55 = .ok (.ireturn, 1) := by decide +kernel
set_option maxRecDepth 20000 in
theorem ggX11_step_X11_asksAt : GoodIn wsX11_step wsX11_asksAt := goodIn_r _ [5, 6, 7, 8, 4, 9, 10, 11, 12, 13, 14, 15, 16, 17, 18, 19, 20, 21, 22, 23, 24, 25, 26, 27, 28, 29, 30, 31, 32, 33, 34, 35, 36, 37, 38, 39, 40, 41, 42, 43, 44, 45, 46, 47, 48, 49, 50, 51, 52, 53, 54, 55, 56, 57, 58, 59, 60, 61, 62, 63, 64, 65, 66, 67, 68, 69, 70, 71, 72, 73, 74, 75, 76, 77, 78, 79, 84, 85, 86, 87, 88, 89, 90, 91, 92, 93, 94, 95, 96, 97, 98, 99, 100, 101, 102, 103, 104, 105, 106, 107, 108, 109] (by decide +kernel) (by decide +kernel)
set_option maxRecDepth 20000 in
theorem gX11_step_X11_asksAt : GoodIn wsX11_step (wsV RX11 210 RX11 yX11_asksAt wsX11_asksAt) := goodIn_app (goodIn_of _ (by decide +kernel)) ggX11_step_X11_asksAt
set_option maxRecDepth 20000 in
theorem ggX11_step_X11_next : GoodIn wsX11_step wsX11_next := goodIn_r _ [83, 26, 31, 63, 64, 65, 4, 66, 32, 33, 34, 35, 6, 84, 85, 86, 87, 88, 89, 90, 91, 92, 93, 94, 95, 96, 97, 98, 99, 100, 101, 102, 103, 104, 105, 106, 107, 108, 109] (by decide +kernel) (by decide +kernel)
set_option maxRecDepth 20000 in
theorem gX11_step_X11_next : GoodIn wsX11_step (wsV RX11 223 RX11 yX11_next wsX11_next) := goodIn_app (goodIn_of _ (by decide +kernel)) ggX11_step_X11_next
theorem dX11_step_0 : decode cX11_step 0 = .ok (.aload_n 0, 1) := by decide +kernel
theorem dX11_step_1 : decode cX11_step 1 = .ok (.iload_n 1, 1) := by decide +kernel
theorem dX11_step_2 : decode cX11_step 2 = .ok (.iload_n 2, 1) := by decide +kernel
theorem dX11_step_3 : decode cX11_step 3 = .ok (.invokevirtual 210, 3) := by decide +kernel
theorem dX11_step_6 : decode cX11_step 6 = .ok (.ifCond .eq 12, 3) := by decide +kernel
theorem dX11_step_9 : decode cX11_step 9 = .ok (.aload_n 0, 1) := by decide +kernel
theorem dX11_step_10 : decode cX11_step 10 = .ok (.iload_n 1, 1) := by decide +kernel
theorem dX11_step_11 : decode cX11_step 11 = .ok (.iload_n 2, 1) := by decide +kernel
theorem dX11_step_12 : decode cX11_step 12 = .ok (.invokevirtual 223, 3) := by decide +kernel
theorem dX11_step_15 : decode cX11_step 15 = .ok (.goto 4, 3) := by decide +kernel
theorem dX11_step_18 : decode cX11_step 18 = .ok (.iconst 0, 1) := by decide +kernel
theorem dX11_step_19 : decode cX11_step 19 = .ok (.ireturn, 1) := by decide +kernel
set_option maxRecDepth 20000 in
theorem ggX11_steps_X11_next : GoodIn wsX11_steps wsX11_next := goodIn_r _ [6, 1, 7, 8, 9, 10, 5, 11, 12, 13, 14, 15, 16, 17, 18, 19, 20, 21, 22, 23, 24, 25, 26, 27, 28, 29, 30, 31, 32, 33, 34, 35, 36, 37, 38, 39, 40, 41, 42] (by decide +kernel) (by decide +kernel)
set_option maxRecDepth 20000 in
theorem gX11_steps_X11_next : GoodIn wsX11_steps (wsV RX11 223 RX11 yX11_next wsX11_next) := goodIn_app (goodIn_of _ (by decide +kernel)) ggX11_steps_X11_next
theorem dX11_steps_0 : decode cX11_steps 0 = .ok (.iload_n 2, 1) := by decide +kernel
theorem dX11_steps_1 : decode cX11_steps 1 = .ok (.istore_n 3, 1) := by decide +kernel
theorem dX11_steps_2 : decode cX11_steps 2 = .ok (.iconst 0, 1) := by decide +kernel
theorem dX11_steps_3 : decode cX11_steps 3 = .ok (.istore 4, 2) := by decide +kernel
theorem dX11_steps_5 : decode cX11_steps 5 = .ok (.iload 4, 2) := by decide +kernel
theorem dX11_steps_7 : decode cX11_steps 7 = .ok (.sipush 199, 3) := by decide +kernel
theorem dX11_steps_10 : decode cX11_steps 10 = .ok (.if_icmp .gt 36, 3) := by decide +kernel
theorem dX11_steps_13 : decode cX11_steps 13 = .ok (.iload_n 3, 1) := by decide +kernel
theorem dX11_steps_14 : decode cX11_steps 14 = .ok (.iconst (-1), 1) := by decide +kernel
theorem dX11_steps_15 : decode cX11_steps 15 = .ok (.if_icmp .eq 31, 3) := by decide +kernel
theorem dX11_steps_18 : decode cX11_steps 18 = .ok (.aload_n 0, 1) := by decide +kernel
theorem dX11_steps_19 : decode cX11_steps 19 = .ok (.getfield 32, 3) := by decide +kernel
theorem dX11_steps_22 : decode cX11_steps 22 = .ok (.sipush 199, 3) := by decide +kernel
theorem dX11_steps_25 : decode cX11_steps 25 = .ok (.iload_n 1, 1) := by decide +kernel
theorem dX11_steps_26 : decode cX11_steps 26 = .ok (.imul, 1) := by decide +kernel
theorem dX11_steps_27 : decode cX11_steps 27 = .ok (.iload_n 3, 1) := by decide +kernel
theorem dX11_steps_28 : decode cX11_steps 28 = .ok (.iadd, 1) := by decide +kernel
theorem dX11_steps_29 : decode cX11_steps 29 = .ok (.iaload, 1) := by decide +kernel
theorem dX11_steps_30 : decode cX11_steps 30 = .ok (.ifCond .eq 16, 3) := by decide +kernel
theorem dX11_steps_33 : decode cX11_steps 33 = .ok (.aload_n 0, 1) := by decide +kernel
theorem dX11_steps_34 : decode cX11_steps 34 = .ok (.iload_n 1, 1) := by decide +kernel
theorem dX11_steps_35 : decode cX11_steps 35 = .ok (.iload_n 3, 1) := by decide +kernel
theorem dX11_steps_36 : decode cX11_steps 36 = .ok (.invokevirtual 223, 3) := by decide +kernel
theorem dX11_steps_39 : decode cX11_steps 39 = .ok (.istore_n 3, 1) := by decide +kernel
theorem dX11_steps_40 : decode cX11_steps 40 = .ok (.iinc 4 1, 3) := by decide +kernel
theorem dX11_steps_43 : decode cX11_steps 43 = .ok (.goto (-38), 3) := by decide +kernel
theorem dX11_steps_46 : decode cX11_steps 46 = .ok (.iload_n 3, 1) := by decide +kernel
theorem dX11_steps_47 : decode cX11_steps 47 = .ok (.iconst (-1), 1) := by decide +kernel
theorem dX11_steps_48 : decode cX11_steps 48 = .ok (.if_icmp .eq 16, 3) := by decide +kernel
theorem dX11_steps_51 : decode cX11_steps 51 = .ok (.iload 4, 2) := by decide +kernel
theorem dX11_steps_53 : decode cX11_steps 53 = .ok (.sipush 199, 3) := by decide +kernel
theorem dX11_steps_56 : decode cX11_steps 56 = .ok (.if_icmp .gt 8, 3) := by decide +kernel
theorem dX11_steps_59 : decode cX11_steps 59 = .ok (.iload 4, 2) := by decide +kernel
theorem dX11_steps_61 : decode cX11_steps 61 = .ok (.goto 4, 3) := by decide +kernel
theorem dX11_steps_64 : decode cX11_steps 64 = .ok (.iconst (-1), 1) := by decide +kernel
theorem dX11_steps_65 : decode cX11_steps 65 = .ok (.ireturn, 1) := by decide +kernel
set_option maxRecDepth 20000 in
theorem ggX11_stepsToRoot_X11_asksAt : GoodIn wsX11_stepsToRoot wsX11_asksAt := goodIn_r _ [5, 6, 7, 8, 4, 9, 10, 11, 12, 13, 14, 15, 16, 17, 18, 19, 20, 21, 22, 23, 24, 25, 26, 27, 28, 29, 30, 31, 32, 33, 34, 35, 36, 37, 38, 39, 40, 41, 42, 43, 44, 45, 46, 47, 48, 49, 50, 51, 52, 53, 54, 55, 56, 57, 58, 59, 60, 61, 62, 63, 64, 65, 66, 67, 68, 69, 70, 71, 72, 73, 74, 75, 76, 77, 78, 79, 88, 89, 90, 91, 92, 93, 94, 95, 96, 97, 98, 99, 100, 101, 102, 103, 104, 105, 106, 107, 108, 109, 110, 111, 112, 113] (by decide +kernel) (by decide +kernel)
set_option maxRecDepth 20000 in
theorem gX11_stepsToRoot_X11_asksAt : GoodIn wsX11_stepsToRoot (wsV RX11 210 RX11 yX11_asksAt wsX11_asksAt) := goodIn_app (goodIn_of _ (by decide +kernel)) ggX11_stepsToRoot_X11_asksAt
set_option maxRecDepth 20000 in
theorem ggX11_stepsToRoot_X11_steps : GoodIn wsX11_stepsToRoot wsX11_steps := goodIn_r _ [83, 26, 84, 85, 86, 4, 87, 31, 63, 64, 65, 66, 32, 33, 34, 35, 6, 88, 89, 90, 91, 92, 93, 94, 95, 96, 97, 98, 99, 100, 101, 102, 103, 104, 105, 106, 107, 108, 109, 110, 111, 112, 113] (by decide +kernel) (by decide +kernel)
set_option maxRecDepth 20000 in
theorem gX11_stepsToRoot_X11_steps : GoodIn wsX11_stepsToRoot (wsV RX11 226 RX11 yX11_steps wsX11_steps) := goodIn_app (goodIn_of _ (by decide +kernel)) ggX11_stepsToRoot_X11_steps
theorem dX11_stepsToRoot_0 : decode cX11_stepsToRoot 0 = .ok (.aload_n 0, 1) := by decide +kernel
theorem dX11_stepsToRoot_1 : decode cX11_stepsToRoot 1 = .ok (.iload_n 1, 1) := by decide +kernel
theorem dX11_stepsToRoot_2 : decode cX11_stepsToRoot 2 = .ok (.iload_n 2, 1) := by decide +kernel
theorem dX11_stepsToRoot_3 : decode cX11_stepsToRoot 3 = .ok (.invokevirtual 210, 3) := by decide +kernel
theorem dX11_stepsToRoot_6 : decode cX11_stepsToRoot 6 = .ok (.ifCond .eq 12, 3) := by decide +kernel
theorem dX11_stepsToRoot_9 : decode cX11_stepsToRoot 9 = .ok (.aload_n 0, 1) := by decide +kernel
theorem dX11_stepsToRoot_10 : decode cX11_stepsToRoot 10 = .ok (.iload_n 1, 1) := by decide +kernel
theorem dX11_stepsToRoot_11 : decode cX11_stepsToRoot 11 = .ok (.iload_n 2, 1) := by decide +kernel
theorem dX11_stepsToRoot_12 : decode cX11_stepsToRoot 12 = .ok (.invokevirtual 226, 3) := by decide +kernel
theorem dX11_stepsToRoot_15 : decode cX11_stepsToRoot 15 = .ok (.goto 4, 3) := by decide +kernel
theorem dX11_stepsToRoot_18 : decode cX11_stepsToRoot 18 = .ok (.iconst 0, 1) := by decide +kernel
theorem dX11_stepsToRoot_19 : decode cX11_stepsToRoot 19 = .ok (.ireturn, 1) := by decide +kernel
