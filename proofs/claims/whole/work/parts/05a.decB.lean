theorem dX11_init_0 : decode cX11_init 0 = .ok (.aload_n 0, 1) := by decide +kernel
theorem dX11_init_1 : decode cX11_init 1 = .ok (.invokespecial 1, 3) := by decide +kernel
theorem dX11_init_4 : decode cX11_init 4 = .ok (.aload_n 0, 1) := by decide +kernel
theorem dX11_init_5 : decode cX11_init 5 = .ok (.sipush 325, 3) := by decide +kernel
theorem dX11_init_8 : decode cX11_init 8 = .ok (.newarray .int, 2) := by decide +kernel
theorem dX11_init_10 : decode cX11_init 10 = .ok (.putfield 7, 3) := by decide +kernel
theorem dX11_init_13 : decode cX11_init 13 = .ok (.aload_n 0, 1) := by decide +kernel
theorem dX11_init_14 : decode cX11_init 14 = .ok (.sipush 1300, 3) := by decide +kernel
theorem dX11_init_17 : decode cX11_init 17 = .ok (.newarray .int, 2) := by decide +kernel
theorem dX11_init_19 : decode cX11_init 19 = .ok (.putfield 13, 3) := by decide +kernel
theorem dX11_init_22 : decode cX11_init 22 = .ok (.aload_n 0, 1) := by decide +kernel
theorem dX11_init_23 : decode cX11_init 23 = .ok (.sipush 325, 3) := by decide +kernel
theorem dX11_init_26 : decode cX11_init 26 = .ok (.newarray .int, 2) := by decide +kernel
theorem dX11_init_28 : decode cX11_init 28 = .ok (.putfield 16, 3) := by decide +kernel
theorem dX11_init_31 : decode cX11_init 31 = .ok (.aload_n 0, 1) := by decide +kernel
theorem dX11_init_32 : decode cX11_init 32 = .ok (.bipush 40, 2) := by decide +kernel
theorem dX11_init_34 : decode cX11_init 34 = .ok (.newarray .char, 2) := by decide +kernel
theorem dX11_init_36 : decode cX11_init 36 = .ok (.putfield 19, 3) := by decide +kernel
theorem dX11_init_39 : decode cX11_init 39 = .ok (.aload_n 0, 1) := by decide +kernel
theorem dX11_init_40 : decode cX11_init 40 = .ok (.bipush 41, 2) := by decide +kernel
theorem dX11_init_42 : decode cX11_init 42 = .ok (.newarray .int, 2) := by decide +kernel
theorem dX11_init_44 : decode cX11_init 44 = .ok (.putfield 23, 3) := by decide +kernel
theorem dX11_init_47 : decode cX11_init 47 = .ok (.aload_n 0, 1) := by decide +kernel
theorem dX11_init_48 : decode cX11_init 48 = .ok (.bipush 41, 2) := by decide +kernel
theorem dX11_init_50 : decode cX11_init 50 = .ok (.newarray .int, 2) := by decide +kernel
theorem dX11_init_52 : decode cX11_init 52 = .ok (.putfield 26, 3) := by decide +kernel
theorem dX11_init_55 : decode cX11_init 55 = .ok (.aload_n 0, 1) := by decide +kernel
theorem dX11_init_56 : decode cX11_init 56 = .ok (.bipush 90, 2) := by decide +kernel
theorem dX11_init_58 : decode cX11_init 58 = .ok (.newarray .int, 2) := by decide +kernel
theorem dX11_init_60 : decode cX11_init 60 = .ok (.putfield 29, 3) := by decide +kernel
theorem dX11_init_63 : decode cX11_init 63 = .ok (.aload_n 0, 1) := by decide +kernel
theorem dX11_init_64 : decode cX11_init 64 = .ok (.sipush 796, 3) := by decide +kernel
theorem dX11_init_67 : decode cX11_init 67 = .ok (.newarray .int, 2) := by decide +kernel
theorem dX11_init_69 : decode cX11_init 69 = .ok (.putfield 32, 3) := by decide +kernel
theorem dX11_init_72 : decode cX11_init 72 = .ok (.aload_n 0, 1) := by decide +kernel
theorem dX11_init_73 : decode cX11_init 73 = .ok (.sipush 796, 3) := by decide +kernel
theorem dX11_init_76 : decode cX11_init 76 = .ok (.newarray .int, 2) := by decide +kernel
theorem dX11_init_78 : decode cX11_init 78 = .ok (.putfield 35, 3) := by decide +kernel
theorem dX11_init_81 : decode cX11_init 81 = .ok (.aload_n 0, 1) := by decide +kernel
theorem dX11_init_82 : decode cX11_init 82 = .ok (.sipush 796, 3) := by decide +kernel
theorem dX11_init_85 : decode cX11_init 85 = .ok (.newarray .int, 2) := by decide +kernel
theorem dX11_init_87 : decode cX11_init 87 = .ok (.putfield 38, 3) := by decide +kernel
theorem dX11_init_90 : decode cX11_init 90 = .ok (.aload_n 0, 1) := by decide +kernel
theorem dX11_init_91 : decode cX11_init 91 = .ok (.bipush 41, 2) := by decide +kernel
theorem dX11_init_93 : decode cX11_init 93 = .ok (.newarray .int, 2) := by decide +kernel
theorem dX11_init_95 : decode cX11_init 95 = .ok (.putfield 41, 3) := by decide +kernel
theorem dX11_init_98 : decode cX11_init 98 = .ok (.aload_n 0, 1) := by decide +kernel
theorem dX11_init_99 : decode cX11_init 99 = .ok (.bipush 41, 2) := by decide +kernel
theorem dX11_init_101 : decode cX11_init 101 = .ok (.newarray .int, 2) := by decide +kernel
theorem dX11_init_103 : decode cX11_init 103 = .ok (.putfield 44, 3) := by decide +kernel
theorem dX11_init_106 : decode cX11_init 106 = .ok (.aload_n 0, 1) := by decide +kernel
theorem dX11_init_107 : decode cX11_init 107 = .ok (.bipush 41, 2) := by decide +kernel
theorem dX11_init_109 : decode cX11_init 109 = .ok (.newarray .int, 2) := by decide +kernel
theorem dX11_init_111 : decode cX11_init 111 = .ok (.putfield 47, 3) := by decide +kernel
theorem dX11_init_114 : decode cX11_init 114 = .ok (.aload_n 0, 1) := by decide +kernel
theorem dX11_init_115 : decode cX11_init 115 = .ok (.bipush 41, 2) := by decide +kernel
theorem dX11_init_117 : decode cX11_init 117 = .ok (.newarray .int, 2) := by decide +kernel
theorem dX11_init_119 : decode cX11_init 119 = .ok (.putfield 50, 3) := by decide +kernel
theorem dX11_init_122 : decode cX11_init 122 = .ok (.aload_n 0, 1) := by decide +kernel
theorem dX11_init_123 : decode cX11_init 123 = .ok (.bipush 41, 2) := by decide +kernel
theorem dX11_init_125 : decode cX11_init 125 = .ok (.newarray .int, 2) := by decide +kernel
theorem dX11_init_127 : decode cX11_init 127 = .ok (.putfield 53, 3) := by decide +kernel
theorem dX11_init_130 : decode cX11_init 130 = .ok (.aload_n 0, 1) := by decide +kernel
theorem dX11_init_131 : decode cX11_init 131 = .ok (.bipush 41, 2) := by decide +kernel
theorem dX11_init_133 : decode cX11_init 133 = .ok (.newarray .int, 2) := by decide +kernel
theorem dX11_init_135 : decode cX11_init 135 = .ok (.putfield 56, 3) := by decide +kernel
theorem dX11_init_138 : decode cX11_init 138 = .ok (.aload_n 0, 1) := by decide +kernel
theorem dX11_init_139 : decode cX11_init 139 = .ok (.getfield 7, 3) := by decide +kernel
theorem dX11_init_142 : decode cX11_init 142 = .ok (.iconst 0, 1) := by decide +kernel
theorem dX11_init_143 : decode cX11_init 143 = .ok (.bipush 97, 2) := by decide +kernel
theorem dX11_init_145 : decode cX11_init 145 = .ok (.iastore, 1) := by decide +kernel
theorem dX11_init_146 : decode cX11_init 146 = .ok (.iconst 0, 1) := by decide +kernel
theorem dX11_init_147 : decode cX11_init 147 = .ok (.istore_n 1, 1) := by decide +kernel
theorem dX11_init_148 : decode cX11_init 148 = .ok (.iload_n 1, 1) := by decide +kernel
theorem dX11_init_149 : decode cX11_init 149 = .ok (.iconst 4, 1) := by decide +kernel
theorem dX11_init_150 : decode cX11_init 150 = .ok (.if_icmp .ge 33, 3) := by decide +kernel
theorem dX11_init_153 : decode cX11_init 153 = .ok (.aload_n 0, 1) := by decide +kernel
theorem dX11_init_154 : decode cX11_init 154 = .ok (.getfield 7, 3) := by decide +kernel
theorem dX11_init_157 : decode cX11_init 157 = .ok (.iconst 1, 1) := by decide +kernel
theorem dX11_init_158 : decode cX11_init 158 = .ok (.bipush 81, 2) := by decide +kernel
theorem dX11_init_160 : decode cX11_init 160 = .ok (.iload_n 1, 1) := by decide +kernel
theorem dX11_init_161 : decode cX11_init 161 = .ok (.imul, 1) := by decide +kernel
theorem dX11_init_162 : decode cX11_init 162 = .ok (.iadd, 1) := by decide +kernel
theorem dX11_init_163 : decode cX11_init 163 = .ok (.iconst 1, 1) := by decide +kernel
theorem dX11_init_164 : decode cX11_init 164 = .ok (.iastore, 1) := by decide +kernel
theorem dX11_init_165 : decode cX11_init 165 = .ok (.aload_n 0, 1) := by decide +kernel
theorem dX11_init_166 : decode cX11_init 166 = .ok (.getfield 7, 3) := by decide +kernel
theorem dX11_init_169 : decode cX11_init 169 = .ok (.iconst 2, 1) := by decide +kernel
theorem dX11_init_170 : decode cX11_init 170 = .ok (.bipush 81, 2) := by decide +kernel
theorem dX11_init_172 : decode cX11_init 172 = .ok (.iload_n 1, 1) := by decide +kernel
theorem dX11_init_173 : decode cX11_init 173 = .ok (.imul, 1) := by decide +kernel
theorem dX11_init_174 : decode cX11_init 174 = .ok (.iadd, 1) := by decide +kernel
theorem dX11_init_175 : decode cX11_init 175 = .ok (.iconst 1, 1) := by decide +kernel
theorem dX11_init_176 : decode cX11_init 176 = .ok (.iastore, 1) := by decide +kernel
theorem dX11_init_177 : decode cX11_init 177 = .ok (.iinc 1 1, 3) := by decide +kernel
theorem dX11_init_180 : decode cX11_init 180 = .ok (.goto (-32), 3) := by decide +kernel
theorem dX11_init_183 : decode cX11_init 183 = .ok (.return_, 1) := by decide +kernel
theorem dX11_thrown_0 : decode cX11_thrown 0 = .ok (.aload_n 0, 1) := by decide +kernel
theorem dX11_thrown_1 : decode cX11_thrown 1 = .ok (.getfield 59, 3) := by decide +kernel
theorem dX11_thrown_4 : decode cX11_thrown 4 = .ok (.ireturn, 1) := by decide +kernel
theorem dX11_in_0 : decode cX11_in 0 = .ok (.iload_n 0, 1) := by decide +kernel
theorem dX11_in_1 : decode cX11_in 1 = .ok (.iload_n 1, 1) := by decide +kernel
theorem dX11_in_2 : decode cX11_in 2 = .ok (.if_icmp .lt 12, 3) := by decide +kernel
theorem dX11_in_5 : decode cX11_in 5 = .ok (.iload_n 0, 1) := by decide +kernel
theorem dX11_in_6 : decode cX11_in 6 = .ok (.iload_n 2, 1) := by decide +kernel
theorem dX11_in_7 : decode cX11_in 7 = .ok (.if_icmp .gt 7, 3) := by decide +kernel
theorem dX11_in_10 : decode cX11_in 10 = .ok (.iconst 1, 1) := by decide +kernel
theorem dX11_in_11 : decode cX11_in 11 = .ok (.goto 4, 3) := by decide +kernel
theorem dX11_in_14 : decode cX11_in 14 = .ok (.iconst 0, 1) := by decide +kernel
theorem dX11_in_15 : decode cX11_in 15 = .ok (.ireturn, 1) := by decide +kernel
theorem dX11_asks_0 : decode cX11_asks 0 = .ok (.aload_n 0, 1) := by decide +kernel
theorem dX11_asks_1 : decode cX11_asks 1 = .ok (.iload_n 1, 1) := by decide +kernel
theorem dX11_asks_2 : decode cX11_asks 2 = .ok (.ifCond .eq 7, 3) := by decide +kernel
theorem dX11_asks_5 : decode cX11_asks 5 = .ok (.iconst 0, 1) := by decide +kernel
theorem dX11_asks_6 : decode cX11_asks 6 = .ok (.goto 4, 3) := by decide +kernel
theorem dX11_asks_9 : decode cX11_asks 9 = .ok (.iconst 1, 1) := by decide +kernel
theorem dX11_asks_10 : decode cX11_asks 10 = .ok (.putfield 59, 3) := by decide +kernel
theorem dX11_asks_13 : decode cX11_asks 13 = .ok (.iload_n 1, 1) := by decide +kernel
theorem dX11_asks_14 : decode cX11_asks 14 = .ok (.ireturn, 1) := by decide +kernel
theorem dX11_asksThen_0 : decode cX11_asksThen 0 = .ok (.aload_n 0, 1) := by decide +kernel
theorem dX11_asksThen_1 : decode cX11_asksThen 1 = .ok (.aload_n 0, 1) := by decide +kernel
theorem dX11_asksThen_2 : decode cX11_asksThen 2 = .ok (.getfield 59, 3) := by decide +kernel
theorem dX11_asksThen_5 : decode cX11_asksThen 5 = .ok (.ifCond .le 10, 3) := by decide +kernel
theorem dX11_asksThen_8 : decode cX11_asksThen 8 = .ok (.aload_n 0, 1) := by decide +kernel
theorem dX11_asksThen_9 : decode cX11_asksThen 9 = .ok (.getfield 59, 3) := by decide +kernel
theorem dX11_asksThen_12 : decode cX11_asksThen 12 = .ok (.goto 12, 3) := by decide +kernel
theorem dX11_asksThen_15 : decode cX11_asksThen 15 = .ok (.iload_n 1, 1) := by decide +kernel
theorem dX11_asksThen_16 : decode cX11_asksThen 16 = .ok (.ifCond .eq 7, 3) := by decide +kernel
theorem dX11_asksThen_19 : decode cX11_asksThen 19 = .ok (.iconst 0, 1) := by decide +kernel
theorem dX11_asksThen_20 : decode cX11_asksThen 20 = .ok (.goto 4, 3) := by decide +kernel
theorem dX11_asksThen_23 : decode cX11_asksThen 23 = .ok (.iload_n 2, 1) := by decide +kernel
theorem dX11_asksThen_24 : decode cX11_asksThen 24 = .ok (.putfield 59, 3) := by decide +kernel
theorem dX11_asksThen_27 : decode cX11_asksThen 27 = .ok (.aload_n 0, 1) := by decide +kernel
theorem dX11_asksThen_28 : decode cX11_asksThen 28 = .ok (.getfield 59, 3) := by decide +kernel
theorem dX11_asksThen_31 : decode cX11_asksThen 31 = .ok (.ifCond .ne 7, 3) := by decide +kernel
theorem dX11_asksThen_34 : decode cX11_asksThen 34 = .ok (.iconst 1, 1) := by decide +kernel
theorem dX11_asksThen_35 : decode cX11_asksThen 35 = .ok (.goto 4, 3) := by decide +kernel
theorem dX11_asksThen_38 : decode cX11_asksThen 38 = .ok (.iconst 0, 1) := by decide +kernel
theorem dX11_asksThen_39 : decode cX11_asksThen 39 = .ok (.ireturn, 1) := by decide +kernel
theorem dX11_says_0 : decode cX11_says 0 = .ok (.aload_n 0, 1) := by decide +kernel
theorem dX11_says_1 : decode cX11_says 1 = .ok (.iconst 0, 1) := by decide +kernel
theorem dX11_says_2 : decode cX11_says 2 = .ok (.putfield 59, 3) := by decide +kernel
theorem dX11_says_5 : decode cX11_says 5 = .ok (.iload_n 1, 1) := by decide +kernel
theorem dX11_says_6 : decode cX11_says 6 = .ok (.ireturn, 1) := by decide +kernel
theorem dX11_size_0 : decode cX11_size 0 = .ok (.aload_n 0, 1) := by decide +kernel
theorem dX11_size_1 : decode cX11_size 1 = .ok (.getfield 7, 3) := by decide +kernel
theorem dX11_size_4 : decode cX11_size 4 = .ok (.iconst 1, 1) := by decide +kernel
theorem dX11_size_5 : decode cX11_size 5 = .ok (.bipush 81, 2) := by decide +kernel
theorem dX11_size_7 : decode cX11_size 7 = .ok (.iload_n 1, 1) := by decide +kernel
theorem dX11_size_8 : decode cX11_size 8 = .ok (.imul, 1) := by decide +kernel
theorem dX11_size_9 : decode cX11_size 9 = .ok (.iadd, 1) := by decide +kernel
theorem dX11_size_10 : decode cX11_size 10 = .ok (.iaload, 1) := by decide +kernel
theorem dX11_size_11 : decode cX11_size 11 = .ok (.ireturn, 1) := by decide +kernel
theorem dX11_kind_0 : decode cX11_kind 0 = .ok (.aload_n 0, 1) := by decide +kernel
theorem dX11_kind_1 : decode cX11_kind 1 = .ok (.getfield 7, 3) := by decide +kernel
theorem dX11_kind_4 : decode cX11_kind 4 = .ok (.iconst 2, 1) := by decide +kernel
theorem dX11_kind_5 : decode cX11_kind 5 = .ok (.bipush 81, 2) := by decide +kernel
theorem dX11_kind_7 : decode cX11_kind 7 = .ok (.iload_n 1, 1) := by decide +kernel
theorem dX11_kind_8 : decode cX11_kind 8 = .ok (.imul, 1) := by decide +kernel
theorem dX11_kind_9 : decode cX11_kind 9 = .ok (.iadd, 1) := by decide +kernel
theorem dX11_kind_10 : decode cX11_kind 10 = .ok (.iconst 2, 1) := by decide +kernel
theorem dX11_kind_11 : decode cX11_kind 11 = .ok (.iload_n 2, 1) := by decide +kernel
theorem dX11_kind_12 : decode cX11_kind 12 = .ok (.imul, 1) := by decide +kernel
theorem dX11_kind_13 : decode cX11_kind 13 = .ok (.iadd, 1) := by decide +kernel
theorem dX11_kind_14 : decode cX11_kind 14 = .ok (.iaload, 1) := by decide +kernel
theorem dX11_kind_15 : decode cX11_kind 15 = .ok (.ireturn, 1) := by decide +kernel
theorem dX11_number_0 : decode cX11_number 0 = .ok (.aload_n 0, 1) := by decide +kernel
theorem dX11_number_1 : decode cX11_number 1 = .ok (.getfield 7, 3) := by decide +kernel
theorem dX11_number_4 : decode cX11_number 4 = .ok (.iconst 3, 1) := by decide +kernel
theorem dX11_number_5 : decode cX11_number 5 = .ok (.bipush 81, 2) := by decide +kernel
theorem dX11_number_7 : decode cX11_number 7 = .ok (.iload_n 1, 1) := by decide +kernel
theorem dX11_number_8 : decode cX11_number 8 = .ok (.imul, 1) := by decide +kernel
theorem dX11_number_9 : decode cX11_number 9 = .ok (.iadd, 1) := by decide +kernel
theorem dX11_number_10 : decode cX11_number 10 = .ok (.iconst 2, 1) := by decide +kernel
theorem dX11_number_11 : decode cX11_number 11 = .ok (.iload_n 2, 1) := by decide +kernel
theorem dX11_number_12 : decode cX11_number 12 = .ok (.imul, 1) := by decide +kernel
theorem dX11_number_13 : decode cX11_number 13 = .ok (.iadd, 1) := by decide +kernel
theorem dX11_number_14 : decode cX11_number 14 = .ok (.iaload, 1) := by decide +kernel
theorem dX11_number_15 : decode cX11_number 15 = .ok (.ireturn, 1) := by decide +kernel
theorem dX11_record_0 : decode cX11_record 0 = .ok (.aload_n 0, 1) := by decide +kernel
theorem dX11_record_1 : decode cX11_record 1 = .ok (.getfield 63, 3) := by decide +kernel
theorem dX11_record_4 : decode cX11_record 4 = .ok (.iconst 4, 1) := by decide +kernel
theorem dX11_record_5 : decode cX11_record 5 = .ok (.if_icmp .ne 44, 3) := by decide +kernel
theorem dX11_record_8 : decode cX11_record 8 = .ok (.iconst 0, 1) := by decide +kernel
theorem dX11_record_9 : decode cX11_record 9 = .ok (.istore_n 1, 1) := by decide +kernel
theorem dX11_record_10 : decode cX11_record 10 = .ok (.iload_n 1, 1) := by decide +kernel
theorem dX11_record_11 : decode cX11_record 11 = .ok (.sipush 975, 3) := by decide +kernel
theorem dX11_record_14 : decode cX11_record 14 = .ok (.if_icmp .ge 25, 3) := by decide +kernel
theorem dX11_record_17 : decode cX11_record 17 = .ok (.aload_n 0, 1) := by decide +kernel
theorem dX11_record_18 : decode cX11_record 18 = .ok (.getfield 13, 3) := by decide +kernel
theorem dX11_record_21 : decode cX11_record 21 = .ok (.iload_n 1, 1) := by decide +kernel
theorem dX11_record_22 : decode cX11_record 22 = .ok (.aload_n 0, 1) := by decide +kernel
theorem dX11_record_23 : decode cX11_record 23 = .ok (.getfield 13, 3) := by decide +kernel
theorem dX11_record_26 : decode cX11_record 26 = .ok (.iload_n 1, 1) := by decide +kernel
theorem dX11_record_27 : decode cX11_record 27 = .ok (.sipush 325, 3) := by decide +kernel
theorem dX11_record_30 : decode cX11_record 30 = .ok (.iadd, 1) := by decide +kernel
theorem dX11_record_31 : decode cX11_record 31 = .ok (.iaload, 1) := by decide +kernel
theorem dX11_record_32 : decode cX11_record 32 = .ok (.iastore, 1) := by decide +kernel
theorem dX11_record_33 : decode cX11_record 33 = .ok (.iinc 1 1, 3) := by decide +kernel
theorem dX11_record_36 : decode cX11_record 36 = .ok (.goto (-26), 3) := by decide +kernel
theorem dX11_record_39 : decode cX11_record 39 = .ok (.aload_n 0, 1) := by decide +kernel
theorem dX11_record_40 : decode cX11_record 40 = .ok (.dup, 1) := by decide +kernel
theorem dX11_record_41 : decode cX11_record 41 = .ok (.getfield 63, 3) := by decide +kernel
theorem dX11_record_44 : decode cX11_record 44 = .ok (.iconst 1, 1) := by decide +kernel
theorem dX11_record_45 : decode cX11_record 45 = .ok (.isub, 1) := by decide +kernel
theorem dX11_record_46 : decode cX11_record 46 = .ok (.putfield 63, 3) := by decide +kernel
theorem dX11_record_49 : decode cX11_record 49 = .ok (.iconst 0, 1) := by decide +kernel
theorem dX11_record_50 : decode cX11_record 50 = .ok (.istore_n 1, 1) := by decide +kernel
theorem dX11_record_51 : decode cX11_record 51 = .ok (.iload_n 1, 1) := by decide +kernel
theorem dX11_record_52 : decode cX11_record 52 = .ok (.sipush 325, 3) := by decide +kernel
theorem dX11_record_55 : decode cX11_record 55 = .ok (.if_icmp .ge 30, 3) := by decide +kernel
theorem dX11_record_58 : decode cX11_record 58 = .ok (.aload_n 0, 1) := by decide +kernel
theorem dX11_record_59 : decode cX11_record 59 = .ok (.getfield 13, 3) := by decide +kernel
theorem dX11_record_62 : decode cX11_record 62 = .ok (.aload_n 0, 1) := by decide +kernel
theorem dX11_record_63 : decode cX11_record 63 = .ok (.getfield 63, 3) := by decide +kernel
theorem dX11_record_66 : decode cX11_record 66 = .ok (.sipush 325, 3) := by decide +kernel
theorem dX11_record_69 : decode cX11_record 69 = .ok (.imul, 1) := by decide +kernel
theorem dX11_record_70 : decode cX11_record 70 = .ok (.iload_n 1, 1) := by decide +kernel
theorem dX11_record_71 : decode cX11_record 71 = .ok (.iadd, 1) := by decide +kernel
theorem dX11_record_72 : decode cX11_record 72 = .ok (.aload_n 0, 1) := by decide +kernel
theorem dX11_record_73 : decode cX11_record 73 = .ok (.getfield 7, 3) := by decide +kernel
theorem dX11_record_76 : decode cX11_record 76 = .ok (.iload_n 1, 1) := by decide +kernel
theorem dX11_record_77 : decode cX11_record 77 = .ok (.iaload, 1) := by decide +kernel
theorem dX11_record_78 : decode cX11_record 78 = .ok (.iastore, 1) := by decide +kernel
theorem dX11_record_79 : decode cX11_record 79 = .ok (.iinc 1 1, 3) := by decide +kernel
theorem dX11_record_82 : decode cX11_record 82 = .ok (.goto (-31), 3) := by decide +kernel
theorem dX11_record_85 : decode cX11_record 85 = .ok (.aload_n 0, 1) := by decide +kernel
theorem dX11_record_86 : decode cX11_record 86 = .ok (.dup, 1) := by decide +kernel
theorem dX11_record_87 : decode cX11_record 87 = .ok (.getfield 63, 3) := by decide +kernel
theorem dX11_record_90 : decode cX11_record 90 = .ok (.iconst 1, 1) := by decide +kernel
theorem dX11_record_91 : decode cX11_record 91 = .ok (.iadd, 1) := by decide +kernel
theorem dX11_record_92 : decode cX11_record 92 = .ok (.putfield 63, 3) := by decide +kernel
theorem dX11_record_95 : decode cX11_record 95 = .ok (.return_, 1) := by decide +kernel
theorem dX11_undo_0 : decode cX11_undo 0 = .ok (.aload_n 0, 1) := by decide +kernel
theorem dX11_undo_1 : decode cX11_undo 1 = .ok (.aload_n 0, 1) := by decide +kernel
theorem dX11_undo_2 : decode cX11_undo 2 = .ok (.getfield 63, 3) := by decide +kernel
theorem dX11_undo_5 : decode cX11_undo 5 = .ok (.ifCond .le 7, 3) := by decide +kernel
theorem dX11_undo_8 : decode cX11_undo 8 = .ok (.iconst 1, 1) := by decide +kernel
theorem dX11_undo_9 : decode cX11_undo 9 = .ok (.goto 4, 3) := by decide +kernel
theorem dX11_undo_12 : decode cX11_undo 12 = .ok (.iconst 0, 1) := by decide +kernel
theorem dX11_undo_13 : decode cX11_undo 13 = .ok (.invokevirtual 66, 3) := by decide +kernel
theorem dX11_undo_16 : decode cX11_undo 16 = .ok (.ifCond .ne 5, 3) := by decide +kernel
theorem dX11_undo_19 : decode cX11_undo 19 = .ok (.iconst 0, 1) := by decide +kernel
theorem dX11_undo_20 : decode cX11_undo 20 = .ok (.ireturn, 1) := by decide +kernel
theorem dX11_undo_21 : decode cX11_undo 21 = .ok (.aload_n 0, 1) := by decide +kernel
theorem dX11_undo_22 : decode cX11_undo 22 = .ok (.dup, 1) := by decide +kernel
theorem dX11_undo_23 : decode cX11_undo 23 = .ok (.getfield 63, 3) := by decide +kernel
theorem dX11_undo_26 : decode cX11_undo 26 = .ok (.iconst 1, 1) := by decide +kernel
theorem dX11_undo_27 : decode cX11_undo 27 = .ok (.isub, 1) := by decide +kernel
theorem dX11_undo_28 : decode cX11_undo 28 = .ok (.putfield 63, 3) := by decide +kernel
theorem dX11_undo_31 : decode cX11_undo 31 = .ok (.iconst 0, 1) := by decide +kernel
theorem dX11_undo_32 : decode cX11_undo 32 = .ok (.istore_n 1, 1) := by decide +kernel
theorem dX11_undo_33 : decode cX11_undo 33 = .ok (.iload_n 1, 1) := by decide +kernel
theorem dX11_undo_34 : decode cX11_undo 34 = .ok (.sipush 325, 3) := by decide +kernel
theorem dX11_undo_37 : decode cX11_undo 37 = .ok (.if_icmp .ge 30, 3) := by decide +kernel
theorem dX11_undo_40 : decode cX11_undo 40 = .ok (.aload_n 0, 1) := by decide +kernel
theorem dX11_undo_41 : decode cX11_undo 41 = .ok (.getfield 7, 3) := by decide +kernel
theorem dX11_undo_44 : decode cX11_undo 44 = .ok (.iload_n 1, 1) := by decide +kernel
theorem dX11_undo_45 : decode cX11_undo 45 = .ok (.aload_n 0, 1) := by decide +kernel
theorem dX11_undo_46 : decode cX11_undo 46 = .ok (.getfield 13, 3) := by decide +kernel
theorem dX11_undo_49 : decode cX11_undo 49 = .ok (.aload_n 0, 1) := by decide +kernel
theorem dX11_undo_50 : decode cX11_undo 50 = .ok (.getfield 63, 3) := by decide +kernel
theorem dX11_undo_53 : decode cX11_undo 53 = .ok (.sipush 325, 3) := by decide +kernel
theorem dX11_undo_56 : decode cX11_undo 56 = .ok (.imul, 1) := by decide +kernel
theorem dX11_undo_57 : decode cX11_undo 57 = .ok (.iload_n 1, 1) := by decide +kernel
theorem dX11_undo_58 : decode cX11_undo 58 = .ok (.iadd, 1) := by decide +kernel
theorem dX11_undo_59 : decode cX11_undo 59 = .ok (.iaload, 1) := by decide +kernel
theorem dX11_undo_60 : decode cX11_undo 60 = .ok (.iastore, 1) := by decide +kernel
theorem dX11_undo_61 : decode cX11_undo 61 = .ok (.iinc 1 1, 3) := by decide +kernel
theorem dX11_undo_64 : decode cX11_undo 64 = .ok (.goto (-31), 3) := by decide +kernel
theorem dX11_undo_67 : decode cX11_undo 67 = .ok (.aload_n 0, 1) := by decide +kernel
theorem dX11_undo_68 : decode cX11_undo 68 = .ok (.getfield 63, 3) := by decide +kernel
theorem dX11_undo_71 : decode cX11_undo 71 = .ok (.ireturn, 1) := by decide +kernel
theorem dX11_takeSnapshot_0 : decode cX11_takeSnapshot 0 = .ok (.aload_n 0, 1) := by decide +kernel
theorem dX11_takeSnapshot_1 : decode cX11_takeSnapshot 1 = .ok (.iconst 1, 1) := by decide +kernel
theorem dX11_takeSnapshot_2 : decode cX11_takeSnapshot 2 = .ok (.putfield 70, 3) := by decide +kernel
theorem dX11_takeSnapshot_5 : decode cX11_takeSnapshot 5 = .ok (.iconst 0, 1) := by decide +kernel
theorem dX11_takeSnapshot_6 : decode cX11_takeSnapshot 6 = .ok (.istore_n 1, 1) := by decide +kernel
theorem dX11_takeSnapshot_7 : decode cX11_takeSnapshot 7 = .ok (.iload_n 1, 1) := by decide +kernel
theorem dX11_takeSnapshot_8 : decode cX11_takeSnapshot 8 = .ok (.sipush 325, 3) := by decide +kernel
theorem dX11_takeSnapshot_11 : decode cX11_takeSnapshot 11 = .ok (.if_icmp .ge 21, 3) := by decide +kernel
theorem dX11_takeSnapshot_14 : decode cX11_takeSnapshot 14 = .ok (.aload_n 0, 1) := by decide +kernel
theorem dX11_takeSnapshot_15 : decode cX11_takeSnapshot 15 = .ok (.getfield 16, 3) := by decide +kernel
theorem dX11_takeSnapshot_18 : decode cX11_takeSnapshot 18 = .ok (.iload_n 1, 1) := by decide +kernel
theorem dX11_takeSnapshot_19 : decode cX11_takeSnapshot 19 = .ok (.aload_n 0, 1) := by decide +kernel
theorem dX11_takeSnapshot_20 : decode cX11_takeSnapshot 20 = .ok (.getfield 7, 3) := by decide +kernel
theorem dX11_takeSnapshot_23 : decode cX11_takeSnapshot 23 = .ok (.iload_n 1, 1) := by decide +kernel
theorem dX11_takeSnapshot_24 : decode cX11_takeSnapshot 24 = .ok (.iaload, 1) := by decide +kernel
theorem dX11_takeSnapshot_25 : decode cX11_takeSnapshot 25 = .ok (.iastore, 1) := by decide +kernel
theorem dX11_takeSnapshot_26 : decode cX11_takeSnapshot 26 = .ok (.iinc 1 1, 3) := by decide +kernel
theorem dX11_takeSnapshot_29 : decode cX11_takeSnapshot 29 = .ok (.goto (-22), 3) := by decide +kernel
theorem dX11_takeSnapshot_32 : decode cX11_takeSnapshot 32 = .ok (.aload_n 0, 1) := by decide +kernel
theorem dX11_takeSnapshot_33 : decode cX11_takeSnapshot 33 = .ok (.aload_n 0, 1) := by decide +kernel
theorem dX11_takeSnapshot_34 : decode cX11_takeSnapshot 34 = .ok (.getfield 7, 3) := by decide +kernel
theorem dX11_takeSnapshot_37 : decode cX11_takeSnapshot 37 = .ok (.iconst 0, 1) := by decide +kernel
theorem dX11_takeSnapshot_38 : decode cX11_takeSnapshot 38 = .ok (.iaload, 1) := by decide +kernel
theorem dX11_takeSnapshot_39 : decode cX11_takeSnapshot 39 = .ok (.invokevirtual 74, 3) := by decide +kernel
theorem dX11_takeSnapshot_42 : decode cX11_takeSnapshot 42 = .ok (.ireturn, 1) := by decide +kernel
theorem dX11_restoreSnapshot_0 : decode cX11_restoreSnapshot 0 = .ok (.aload_n 0, 1) := by decide +kernel
theorem dX11_restoreSnapshot_1 : decode cX11_restoreSnapshot 1 = .ok (.aload_n 0, 1) := by decide +kernel
theorem dX11_restoreSnapshot_2 : decode cX11_restoreSnapshot 2 = .ok (.getfield 70, 3) := by decide +kernel
theorem dX11_restoreSnapshot_5 : decode cX11_restoreSnapshot 5 = .ok (.invokevirtual 66, 3) := by decide +kernel
theorem dX11_restoreSnapshot_8 : decode cX11_restoreSnapshot 8 = .ok (.ifCond .ne 5, 3) := by decide +kernel
theorem dX11_restoreSnapshot_11 : decode cX11_restoreSnapshot 11 = .ok (.iconst 0, 1) := by decide +kernel
theorem dX11_restoreSnapshot_12 : decode cX11_restoreSnapshot 12 = .ok (.ireturn, 1) := by decide +kernel
theorem dX11_restoreSnapshot_13 : decode cX11_restoreSnapshot 13 = .ok (.aload_n 0, 1) := by decide +kernel
theorem dX11_restoreSnapshot_14 : decode cX11_restoreSnapshot 14 = .ok (.invokevirtual 78, 3) := by decide +kernel
theorem dX11_restoreSnapshot_17 : decode cX11_restoreSnapshot 17 = .ok (.iconst 0, 1) := by decide +kernel
theorem dX11_restoreSnapshot_18 : decode cX11_restoreSnapshot 18 = .ok (.istore_n 1, 1) := by decide +kernel
theorem dX11_restoreSnapshot_19 : decode cX11_restoreSnapshot 19 = .ok (.iload_n 1, 1) := by decide +kernel
theorem dX11_restoreSnapshot_20 : decode cX11_restoreSnapshot 20 = .ok (.sipush 325, 3) := by decide +kernel
theorem dX11_restoreSnapshot_23 : decode cX11_restoreSnapshot 23 = .ok (.if_icmp .ge 21, 3) := by decide +kernel
theorem dX11_restoreSnapshot_26 : decode cX11_restoreSnapshot 26 = .ok (.aload_n 0, 1) := by decide +kernel
theorem dX11_restoreSnapshot_27 : decode cX11_restoreSnapshot 27 = .ok (.getfield 7, 3) := by decide +kernel
theorem dX11_restoreSnapshot_30 : decode cX11_restoreSnapshot 30 = .ok (.iload_n 1, 1) := by decide +kernel
theorem dX11_restoreSnapshot_31 : decode cX11_restoreSnapshot 31 = .ok (.aload_n 0, 1) := by decide +kernel
theorem dX11_restoreSnapshot_32 : decode cX11_restoreSnapshot 32 = .ok (.getfield 16, 3) := by decide +kernel
theorem dX11_restoreSnapshot_35 : decode cX11_restoreSnapshot 35 = .ok (.iload_n 1, 1) := by decide +kernel
theorem dX11_restoreSnapshot_36 : decode cX11_restoreSnapshot 36 = .ok (.iaload, 1) := by decide +kernel
theorem dX11_restoreSnapshot_37 : decode cX11_restoreSnapshot 37 = .ok (.iastore, 1) := by decide +kernel
theorem dX11_restoreSnapshot_38 : decode cX11_restoreSnapshot 38 = .ok (.iinc 1 1, 3) := by decide +kernel
theorem dX11_restoreSnapshot_41 : decode cX11_restoreSnapshot 41 = .ok (.goto (-22), 3) := by decide +kernel
theorem dX11_restoreSnapshot_44 : decode cX11_restoreSnapshot 44 = .ok (.aload_n 0, 1) := by decide +kernel
theorem dX11_restoreSnapshot_45 : decode cX11_restoreSnapshot 45 = .ok (.getfield 7, 3) := by decide +kernel
theorem dX11_restoreSnapshot_48 : decode cX11_restoreSnapshot 48 = .ok (.iconst 0, 1) := by decide +kernel
theorem dX11_restoreSnapshot_49 : decode cX11_restoreSnapshot 49 = .ok (.iaload, 1) := by decide +kernel
theorem dX11_restoreSnapshot_50 : decode cX11_restoreSnapshot 50 = .ok (.ireturn, 1) := by decide +kernel
theorem dX11_recordedStates_0 : decode cX11_recordedStates 0 = .ok (.aload_n 0, 1) := by decide +kernel
theorem dX11_recordedStates_1 : decode cX11_recordedStates 1 = .ok (.aload_n 0, 1) := by decide +kernel
theorem dX11_recordedStates_2 : decode cX11_recordedStates 2 = .ok (.getfield 63, 3) := by decide +kernel
theorem dX11_recordedStates_5 : decode cX11_recordedStates 5 = .ok (.invokevirtual 74, 3) := by decide +kernel
theorem dX11_recordedStates_8 : decode cX11_recordedStates 8 = .ok (.ireturn, 1) := by decide +kernel
theorem dX11_type_0 : decode cX11_type 0 = .ok (.aload_n 0, 1) := by decide +kernel
theorem dX11_type_1 : decode cX11_type 1 = .ok (.aload_n 0, 1) := by decide +kernel
theorem dX11_type_2 : decode cX11_type 2 = .ok (.getfield 81, 3) := by decide +kernel
theorem dX11_type_5 : decode cX11_type 5 = .ok (.bipush 40, 2) := by decide +kernel
theorem dX11_type_7 : decode cX11_type 7 = .ok (.if_icmp .ge 7, 3) := by decide +kernel
theorem dX11_type_10 : decode cX11_type 10 = .ok (.iconst 1, 1) := by decide +kernel
theorem dX11_type_11 : decode cX11_type 11 = .ok (.goto 4, 3) := by decide +kernel
theorem dX11_type_14 : decode cX11_type 14 = .ok (.iconst 0, 1) := by decide +kernel
theorem dX11_type_15 : decode cX11_type 15 = .ok (.invokevirtual 66, 3) := by decide +kernel
theorem dX11_type_18 : decode cX11_type 18 = .ok (.ifCond .ne 5, 3) := by decide +kernel
theorem dX11_type_21 : decode cX11_type 21 = .ok (.iconst 0, 1) := by decide +kernel
theorem dX11_type_22 : decode cX11_type 22 = .ok (.ireturn, 1) := by decide +kernel
theorem dX11_type_23 : decode cX11_type 23 = .ok (.aload_n 0, 1) := by decide +kernel
theorem dX11_type_24 : decode cX11_type 24 = .ok (.getfield 19, 3) := by decide +kernel
theorem dX11_type_27 : decode cX11_type 27 = .ok (.aload_n 0, 1) := by decide +kernel
theorem dX11_type_28 : decode cX11_type 28 = .ok (.getfield 81, 3) := by decide +kernel
theorem dX11_type_31 : decode cX11_type 31 = .ok (.iload_n 1, 1) := by decide +kernel
theorem dX11_type_32 : decode cX11_type 32 = .ok (.castore, 1) := by decide +kernel
theorem dX11_type_33 : decode cX11_type 33 = .ok (.aload_n 0, 1) := by decide +kernel
theorem dX11_type_34 : decode cX11_type 34 = .ok (.dup, 1) := by decide +kernel
theorem dX11_type_35 : decode cX11_type 35 = .ok (.getfield 81, 3) := by decide +kernel
theorem dX11_type_38 : decode cX11_type 38 = .ok (.iconst 1, 1) := by decide +kernel
theorem dX11_type_39 : decode cX11_type 39 = .ok (.iadd, 1) := by decide +kernel
theorem dX11_type_40 : decode cX11_type 40 = .ok (.putfield 81, 3) := by decide +kernel
theorem dX11_type_43 : decode cX11_type 43 = .ok (.aload_n 0, 1) := by decide +kernel
theorem dX11_type_44 : decode cX11_type 44 = .ok (.getfield 81, 3) := by decide +kernel
theorem dX11_type_47 : decode cX11_type 47 = .ok (.ireturn, 1) := by decide +kernel
theorem dX11_clearText_0 : decode cX11_clearText 0 = .ok (.aload_n 0, 1) := by decide +kernel
theorem dX11_clearText_1 : decode cX11_clearText 1 = .ok (.getfield 81, 3) := by decide +kernel
theorem dX11_clearText_4 : decode cX11_clearText 4 = .ok (.istore_n 1, 1) := by decide +kernel
theorem dX11_clearText_5 : decode cX11_clearText 5 = .ok (.aload_n 0, 1) := by decide +kernel
theorem dX11_clearText_6 : decode cX11_clearText 6 = .ok (.iconst 0, 1) := by decide +kernel
theorem dX11_clearText_7 : decode cX11_clearText 7 = .ok (.putfield 81, 3) := by decide +kernel
theorem dX11_clearText_10 : decode cX11_clearText 10 = .ok (.aload_n 0, 1) := by decide +kernel
theorem dX11_clearText_11 : decode cX11_clearText 11 = .ok (.iload_n 1, 1) := by decide +kernel
theorem dX11_clearText_12 : decode cX11_clearText 12 = .ok (.invokevirtual 74, 3) := by decide +kernel
theorem dX11_clearText_15 : decode cX11_clearText 15 = .ok (.ireturn, 1) := by decide +kernel
theorem dX11_node_0 : decode cX11_node 0 = .ok (.aload_n 0, 1) := by decide +kernel
theorem dX11_node_1 : decode cX11_node 1 = .ok (.getfield 23, 3) := by decide +kernel
theorem dX11_node_4 : decode cX11_node 4 = .ok (.aload_n 0, 1) := by decide +kernel
theorem dX11_node_5 : decode cX11_node 5 = .ok (.getfield 84, 3) := by decide +kernel
theorem dX11_node_8 : decode cX11_node 8 = .ok (.iload_n 1, 1) := by decide +kernel
theorem dX11_node_9 : decode cX11_node 9 = .ok (.iastore, 1) := by decide +kernel
theorem dX11_node_10 : decode cX11_node 10 = .ok (.aload_n 0, 1) := by decide +kernel
theorem dX11_node_11 : decode cX11_node 11 = .ok (.getfield 26, 3) := by decide +kernel
theorem dX11_node_14 : decode cX11_node 14 = .ok (.aload_n 0, 1) := by decide +kernel
theorem dX11_node_15 : decode cX11_node 15 = .ok (.getfield 84, 3) := by decide +kernel
theorem dX11_node_18 : decode cX11_node 18 = .ok (.iload_n 2, 1) := by decide +kernel
theorem dX11_node_19 : decode cX11_node 19 = .ok (.iastore, 1) := by decide +kernel
theorem dX11_node_20 : decode cX11_node 20 = .ok (.aload_n 0, 1) := by decide +kernel
theorem dX11_node_21 : decode cX11_node 21 = .ok (.dup, 1) := by decide +kernel
theorem dX11_node_22 : decode cX11_node 22 = .ok (.getfield 84, 3) := by decide +kernel
theorem dX11_node_25 : decode cX11_node 25 = .ok (.iconst 1, 1) := by decide +kernel
theorem dX11_node_26 : decode cX11_node 26 = .ok (.iadd, 1) := by decide +kernel
theorem dX11_node_27 : decode cX11_node 27 = .ok (.putfield 84, 3) := by decide +kernel
theorem dX11_node_30 : decode cX11_node 30 = .ok (.return_, 1) := by decide +kernel
theorem dX11_waitsFor_0 : decode cX11_waitsFor 0 = .ok (.aload_n 0, 1) := by decide +kernel
theorem dX11_waitsFor_1 : decode cX11_waitsFor 1 = .ok (.getfield 29, 3) := by decide +kernel
theorem dX11_waitsFor_4 : decode cX11_waitsFor 4 = .ok (.iconst 2, 1) := by decide +kernel
theorem dX11_waitsFor_5 : decode cX11_waitsFor 5 = .ok (.aload_n 0, 1) := by decide +kernel
theorem dX11_waitsFor_6 : decode cX11_waitsFor 6 = .ok (.getfield 87, 3) := by decide +kernel
theorem dX11_waitsFor_9 : decode cX11_waitsFor 9 = .ok (.imul, 1) := by decide +kernel
theorem dX11_waitsFor_10 : decode cX11_waitsFor 10 = .ok (.iload_n 1, 1) := by decide +kernel
theorem dX11_waitsFor_11 : decode cX11_waitsFor 11 = .ok (.iastore, 1) := by decide +kernel
theorem dX11_waitsFor_12 : decode cX11_waitsFor 12 = .ok (.aload_n 0, 1) := by decide +kernel
theorem dX11_waitsFor_13 : decode cX11_waitsFor 13 = .ok (.getfield 29, 3) := by decide +kernel
theorem dX11_waitsFor_16 : decode cX11_waitsFor 16 = .ok (.iconst 2, 1) := by decide +kernel
theorem dX11_waitsFor_17 : decode cX11_waitsFor 17 = .ok (.aload_n 0, 1) := by decide +kernel
theorem dX11_waitsFor_18 : decode cX11_waitsFor 18 = .ok (.getfield 87, 3) := by decide +kernel
theorem dX11_waitsFor_21 : decode cX11_waitsFor 21 = .ok (.imul, 1) := by decide +kernel
theorem dX11_waitsFor_22 : decode cX11_waitsFor 22 = .ok (.iconst 1, 1) := by decide +kernel
theorem dX11_waitsFor_23 : decode cX11_waitsFor 23 = .ok (.iadd, 1) := by decide +kernel
theorem dX11_waitsFor_24 : decode cX11_waitsFor 24 = .ok (.iload_n 2, 1) := by decide +kernel
theorem dX11_waitsFor_25 : decode cX11_waitsFor 25 = .ok (.iastore, 1) := by decide +kernel
theorem dX11_waitsFor_26 : decode cX11_waitsFor 26 = .ok (.aload_n 0, 1) := by decide +kernel
theorem dX11_waitsFor_27 : decode cX11_waitsFor 27 = .ok (.dup, 1) := by decide +kernel
theorem dX11_waitsFor_28 : decode cX11_waitsFor 28 = .ok (.getfield 87, 3) := by decide +kernel
theorem dX11_waitsFor_31 : decode cX11_waitsFor 31 = .ok (.iconst 1, 1) := by decide +kernel
theorem dX11_waitsFor_32 : decode cX11_waitsFor 32 = .ok (.iadd, 1) := by decide +kernel
theorem dX11_waitsFor_33 : decode cX11_waitsFor 33 = .ok (.putfield 87, 3) := by decide +kernel
theorem dX11_waitsFor_36 : decode cX11_waitsFor 36 = .ok (.return_, 1) := by decide +kernel
theorem dX11_last_0 : decode cX11_last 0 = .ok (.aload_n 0, 1) := by decide +kernel
theorem dX11_last_1 : decode cX11_last 1 = .ok (.getfield 87, 3) := by decide +kernel
theorem dX11_last_4 : decode cX11_last 4 = .ok (.ifCond .ne 7, 3) := by decide +kernel
theorem dX11_last_7 : decode cX11_last 7 = .ok (.iconst (-1), 1) := by decide +kernel
theorem dX11_last_8 : decode cX11_last 8 = .ok (.goto 16, 3) := by decide +kernel
theorem dX11_last_11 : decode cX11_last 11 = .ok (.aload_n 0, 1) := by decide +kernel
theorem dX11_last_12 : decode cX11_last 12 = .ok (.getfield 29, 3) := by decide +kernel
theorem dX11_last_15 : decode cX11_last 15 = .ok (.iconst 2, 1) := by decide +kernel
theorem dX11_last_16 : decode cX11_last 16 = .ok (.aload_n 0, 1) := by decide +kernel
theorem dX11_last_17 : decode cX11_last 17 = .ok (.getfield 87, 3) := by decide +kernel
theorem dX11_last_20 : decode cX11_last 20 = .ok (.imul, 1) := by decide +kernel
theorem dX11_last_21 : decode cX11_last 21 = .ok (.iconst 2, 1) := by decide +kernel
theorem dX11_last_22 : decode cX11_last 22 = .ok (.isub, 1) := by decide +kernel
theorem dX11_last_23 : decode cX11_last 23 = .ok (.iaload, 1) := by decide +kernel
theorem dX11_last_24 : decode cX11_last 24 = .ok (.ireturn, 1) := by decide +kernel
theorem dX11_comes_0 : decode cX11_comes 0 = .ok (.aload_n 0, 1) := by decide +kernel
theorem dX11_comes_1 : decode cX11_comes 1 = .ok (.dup, 1) := by decide +kernel
theorem dX11_comes_2 : decode cX11_comes 2 = .ok (.getfield 87, 3) := by decide +kernel
theorem dX11_comes_5 : decode cX11_comes 5 = .ok (.iconst 1, 1) := by decide +kernel
theorem dX11_comes_6 : decode cX11_comes 6 = .ok (.isub, 1) := by decide +kernel
theorem dX11_comes_7 : decode cX11_comes 7 = .ok (.putfield 87, 3) := by decide +kernel
theorem dX11_comes_10 : decode cX11_comes 10 = .ok (.aload_n 0, 1) := by decide +kernel
theorem dX11_comes_11 : decode cX11_comes 11 = .ok (.aload_n 0, 1) := by decide +kernel
theorem dX11_comes_12 : decode cX11_comes 12 = .ok (.getfield 29, 3) := by decide +kernel
theorem dX11_comes_15 : decode cX11_comes 15 = .ok (.iconst 2, 1) := by decide +kernel
theorem dX11_comes_16 : decode cX11_comes 16 = .ok (.aload_n 0, 1) := by decide +kernel
theorem dX11_comes_17 : decode cX11_comes 17 = .ok (.getfield 87, 3) := by decide +kernel
theorem dX11_comes_20 : decode cX11_comes 20 = .ok (.imul, 1) := by decide +kernel
theorem dX11_comes_21 : decode cX11_comes 21 = .ok (.iaload, 1) := by decide +kernel
theorem dX11_comes_22 : decode cX11_comes 22 = .ok (.aload_n 0, 1) := by decide +kernel
theorem dX11_comes_23 : decode cX11_comes 23 = .ok (.getfield 29, 3) := by decide +kernel
theorem dX11_comes_26 : decode cX11_comes 26 = .ok (.iconst 2, 1) := by decide +kernel
theorem dX11_comes_27 : decode cX11_comes 27 = .ok (.aload_n 0, 1) := by decide +kernel
theorem dX11_comes_28 : decode cX11_comes 28 = .ok (.getfield 87, 3) := by decide +kernel
theorem dX11_comes_31 : decode cX11_comes 31 = .ok (.imul, 1) := by decide +kernel
theorem dX11_comes_32 : decode cX11_comes 32 = .ok (.iconst 1, 1) := by decide +kernel
theorem dX11_comes_33 : decode cX11_comes 33 = .ok (.iadd, 1) := by decide +kernel
theorem dX11_comes_34 : decode cX11_comes 34 = .ok (.iaload, 1) := by decide +kernel
theorem dX11_comes_35 : decode cX11_comes 35 = .ok (.invokevirtual 90, 3) := by decide +kernel
theorem dX11_comes_38 : decode cX11_comes 38 = .ok (.return_, 1) := by decide +kernel
theorem dX11_atom_0 : decode cX11_atom 0 = .ok (.aload_n 0, 1) := by decide +kernel
theorem dX11_atom_1 : decode cX11_atom 1 = .ok (.invokevirtual 94, 3) := by decide +kernel
theorem dX11_atom_4 : decode cX11_atom 4 = .ok (.iconst 2, 1) := by decide +kernel
theorem dX11_atom_5 : decode cX11_atom 5 = .ok (.if_icmp .ne 10, 3) := by decide +kernel
theorem dX11_atom_8 : decode cX11_atom 8 = .ok (.aload_n 0, 1) := by decide +kernel
theorem dX11_atom_9 : decode cX11_atom 9 = .ok (.invokevirtual 98, 3) := by decide +kernel
theorem dX11_atom_12 : decode cX11_atom 12 = .ok (.goto (-12), 3) := by decide +kernel
theorem dX11_atom_15 : decode cX11_atom 15 = .ok (.return_, 1) := by decide +kernel
theorem dX11_binds_0 : decode cX11_binds 0 = .ok (.aload_n 0, 1) := by decide +kernel
theorem dX11_binds_1 : decode cX11_binds 1 = .ok (.invokevirtual 94, 3) := by decide +kernel
theorem dX11_binds_4 : decode cX11_binds 4 = .ok (.iconst 5, 1) := by decide +kernel
theorem dX11_binds_5 : decode cX11_binds 5 = .ok (.if_icmp .eq 32, 3) := by decide +kernel
theorem dX11_binds_8 : decode cX11_binds 8 = .ok (.aload_n 0, 1) := by decide +kernel
theorem dX11_binds_9 : decode cX11_binds 9 = .ok (.invokevirtual 94, 3) := by decide +kernel
theorem dX11_binds_12 : decode cX11_binds 12 = .ok (.bipush 6, 2) := by decide +kernel
theorem dX11_binds_14 : decode cX11_binds 14 = .ok (.if_icmp .eq 23, 3) := by decide +kernel
theorem dX11_binds_17 : decode cX11_binds 17 = .ok (.iload_n 1, 1) := by decide +kernel
theorem dX11_binds_18 : decode cX11_binds 18 = .ok (.ifCond .eq 26, 3) := by decide +kernel
theorem dX11_binds_21 : decode cX11_binds 21 = .ok (.aload_n 0, 1) := by decide +kernel
theorem dX11_binds_22 : decode cX11_binds 22 = .ok (.invokevirtual 94, 3) := by decide +kernel
theorem dX11_binds_25 : decode cX11_binds 25 = .ok (.iconst 3, 1) := by decide +kernel
theorem dX11_binds_26 : decode cX11_binds 26 = .ok (.if_icmp .eq 11, 3) := by decide +kernel
theorem dX11_binds_29 : decode cX11_binds 29 = .ok (.aload_n 0, 1) := by decide +kernel
theorem dX11_binds_30 : decode cX11_binds 30 = .ok (.invokevirtual 94, 3) := by decide +kernel
theorem dX11_binds_33 : decode cX11_binds 33 = .ok (.iconst 4, 1) := by decide +kernel
theorem dX11_binds_34 : decode cX11_binds 34 = .ok (.if_icmp .ne 10, 3) := by decide +kernel
theorem dX11_binds_37 : decode cX11_binds 37 = .ok (.aload_n 0, 1) := by decide +kernel
theorem dX11_binds_38 : decode cX11_binds 38 = .ok (.invokevirtual 98, 3) := by decide +kernel
theorem dX11_binds_41 : decode cX11_binds 41 = .ok (.goto (-41), 3) := by decide +kernel
theorem dX11_binds_44 : decode cX11_binds 44 = .ok (.return_, 1) := by decide +kernel
theorem dX11_function_0 : decode cX11_function 0 = .ok (.iload_n 0, 1) := by decide +kernel
theorem dX11_function_1 : decode cX11_function 1 = .ok (.bipush 102, 2) := by decide +kernel
theorem dX11_function_3 : decode cX11_function 3 = .ok (.if_icmp .ne 7, 3) := by decide +kernel
theorem dX11_function_6 : decode cX11_function 6 = .ok (.iconst 0, 1) := by decide +kernel
theorem dX11_function_7 : decode cX11_function 7 = .ok (.goto 34, 3) := by decide +kernel
theorem dX11_function_10 : decode cX11_function 10 = .ok (.iload_n 0, 1) := by decide +kernel
theorem dX11_function_11 : decode cX11_function 11 = .ok (.bipush 103, 2) := by decide +kernel
theorem dX11_function_13 : decode cX11_function 13 = .ok (.if_icmp .ne 7, 3) := by decide +kernel
theorem dX11_function_16 : decode cX11_function 16 = .ok (.iconst 1, 1) := by decide +kernel
theorem dX11_function_17 : decode cX11_function 17 = .ok (.goto 24, 3) := by decide +kernel
theorem dX11_function_20 : decode cX11_function 20 = .ok (.iload_n 0, 1) := by decide +kernel
theorem dX11_function_21 : decode cX11_function 21 = .ok (.bipush 104, 2) := by decide +kernel
theorem dX11_function_23 : decode cX11_function 23 = .ok (.if_icmp .ne 7, 3) := by decide +kernel
theorem dX11_function_26 : decode cX11_function 26 = .ok (.iconst 2, 1) := by decide +kernel
theorem dX11_function_27 : decode cX11_function 27 = .ok (.goto 14, 3) := by decide +kernel
theorem dX11_function_30 : decode cX11_function 30 = .ok (.iload_n 0, 1) := by decide +kernel
theorem dX11_function_31 : decode cX11_function 31 = .ok (.bipush 107, 2) := by decide +kernel
theorem dX11_function_33 : decode cX11_function 33 = .ok (.if_icmp .ne 7, 3) := by decide +kernel
theorem dX11_function_36 : decode cX11_function 36 = .ok (.iconst 3, 1) := by decide +kernel
theorem dX11_function_37 : decode cX11_function 37 = .ok (.goto 4, 3) := by decide +kernel
theorem dX11_function_40 : decode cX11_function 40 = .ok (.iconst (-1), 1) := by decide +kernel
theorem dX11_function_41 : decode cX11_function 41 = .ok (.ireturn, 1) := by decide +kernel
theorem dX11_begins_0 : decode cX11_begins 0 = .ok (.iload_n 1, 1) := by decide +kernel
theorem dX11_begins_1 : decode cX11_begins 1 = .ok (.bipush 48, 2) := by decide +kernel
theorem dX11_begins_3 : decode cX11_begins 3 = .ok (.bipush 57, 2) := by decide +kernel
theorem dX11_begins_5 : decode cX11_begins 5 = .ok (.invokestatic 101, 3) := by decide +kernel
theorem dX11_begins_8 : decode cX11_begins 8 = .ok (.ifCond .eq 18, 3) := by decide +kernel
theorem dX11_begins_11 : decode cX11_begins 11 = .ok (.aload_n 0, 1) := by decide +kernel
theorem dX11_begins_12 : decode cX11_begins 12 = .ok (.iload_n 1, 1) := by decide +kernel
theorem dX11_begins_13 : decode cX11_begins 13 = .ok (.bipush 48, 2) := by decide +kernel
theorem dX11_begins_15 : decode cX11_begins 15 = .ok (.isub, 1) := by decide +kernel
theorem dX11_begins_16 : decode cX11_begins 16 = .ok (.putfield 105, 3) := by decide +kernel
theorem dX11_begins_19 : decode cX11_begins 19 = .ok (.aload_n 0, 1) := by decide +kernel
theorem dX11_begins_20 : decode cX11_begins 20 = .ok (.iconst 1, 1) := by decide +kernel
theorem dX11_begins_21 : decode cX11_begins 21 = .ok (.putfield 108, 3) := by decide +kernel
theorem dX11_begins_24 : decode cX11_begins 24 = .ok (.iconst 1, 1) := by decide +kernel
theorem dX11_begins_25 : decode cX11_begins 25 = .ok (.ireturn, 1) := by decide +kernel
theorem dX11_begins_26 : decode cX11_begins 26 = .ok (.iload_n 1, 1) := by decide +kernel
theorem dX11_begins_27 : decode cX11_begins 27 = .ok (.bipush 120, 2) := by decide +kernel
theorem dX11_begins_29 : decode cX11_begins 29 = .ok (.if_icmp .ne 20, 3) := by decide +kernel
theorem dX11_begins_32 : decode cX11_begins 32 = .ok (.aload_n 0, 1) := by decide +kernel
theorem dX11_begins_33 : decode cX11_begins 33 = .ok (.iconst 1, 1) := by decide +kernel
theorem dX11_begins_34 : decode cX11_begins 34 = .ok (.iconst 0, 1) := by decide +kernel
theorem dX11_begins_35 : decode cX11_begins 35 = .ok (.invokevirtual 90, 3) := by decide +kernel
theorem dX11_begins_38 : decode cX11_begins 38 = .ok (.aload_n 0, 1) := by decide +kernel
theorem dX11_begins_39 : decode cX11_begins 39 = .ok (.invokevirtual 111, 3) := by decide +kernel
theorem dX11_begins_42 : decode cX11_begins 42 = .ok (.aload_n 0, 1) := by decide +kernel
theorem dX11_begins_43 : decode cX11_begins 43 = .ok (.iconst 2, 1) := by decide +kernel
theorem dX11_begins_44 : decode cX11_begins 44 = .ok (.putfield 108, 3) := by decide +kernel
theorem dX11_begins_47 : decode cX11_begins 47 = .ok (.iconst 1, 1) := by decide +kernel
theorem dX11_begins_48 : decode cX11_begins 48 = .ok (.ireturn, 1) := by decide +kernel
theorem dX11_begins_49 : decode cX11_begins 49 = .ok (.iload_n 1, 1) := by decide +kernel
theorem dX11_begins_50 : decode cX11_begins 50 = .ok (.bipush 45, 2) := by decide +kernel
theorem dX11_begins_52 : decode cX11_begins 52 = .ok (.if_icmp .ne 11, 3) := by decide +kernel
theorem dX11_begins_55 : decode cX11_begins 55 = .ok (.aload_n 0, 1) := by decide +kernel
theorem dX11_begins_56 : decode cX11_begins 56 = .ok (.iconst 2, 1) := by decide +kernel
theorem dX11_begins_57 : decode cX11_begins 57 = .ok (.iconst 0, 1) := by decide +kernel
theorem dX11_begins_58 : decode cX11_begins 58 = .ok (.invokevirtual 114, 3) := by decide +kernel
theorem dX11_begins_61 : decode cX11_begins 61 = .ok (.iconst 1, 1) := by decide +kernel
theorem dX11_begins_62 : decode cX11_begins 62 = .ok (.ireturn, 1) := by decide +kernel
theorem dX11_begins_63 : decode cX11_begins 63 = .ok (.iload_n 1, 1) := by decide +kernel
theorem dX11_begins_64 : decode cX11_begins 64 = .ok (.bipush 40, 2) := by decide +kernel
theorem dX11_begins_66 : decode cX11_begins 66 = .ok (.if_icmp .ne 22, 3) := by decide +kernel
theorem dX11_begins_69 : decode cX11_begins 69 = .ok (.aload_n 0, 1) := by decide +kernel
theorem dX11_begins_70 : decode cX11_begins 70 = .ok (.bipush 9, 2) := by decide +kernel
theorem dX11_begins_72 : decode cX11_begins 72 = .ok (.iconst 0, 1) := by decide +kernel
theorem dX11_begins_73 : decode cX11_begins 73 = .ok (.invokevirtual 114, 3) := by decide +kernel
theorem dX11_begins_76 : decode cX11_begins 76 = .ok (.aload_n 0, 1) := by decide +kernel
theorem dX11_begins_77 : decode cX11_begins 77 = .ok (.dup, 1) := by decide +kernel
theorem dX11_begins_78 : decode cX11_begins 78 = .ok (.getfield 117, 3) := by decide +kernel
theorem dX11_begins_81 : decode cX11_begins 81 = .ok (.iconst 1, 1) := by decide +kernel
theorem dX11_begins_82 : decode cX11_begins 82 = .ok (.iadd, 1) := by decide +kernel
theorem dX11_begins_83 : decode cX11_begins 83 = .ok (.putfield 117, 3) := by decide +kernel
theorem dX11_begins_86 : decode cX11_begins 86 = .ok (.iconst 1, 1) := by decide +kernel
theorem dX11_begins_87 : decode cX11_begins 87 = .ok (.ireturn, 1) := by decide +kernel
theorem dX11_begins_88 : decode cX11_begins 88 = .ok (.iload_n 1, 1) := by decide +kernel
theorem dX11_begins_89 : decode cX11_begins 89 = .ok (.invokestatic 120, 3) := by decide +kernel
theorem dX11_begins_92 : decode cX11_begins 92 = .ok (.iconst (-1), 1) := by decide +kernel
theorem dX11_begins_93 : decode cX11_begins 93 = .ok (.if_icmp .eq 20, 3) := by decide +kernel
theorem dX11_begins_96 : decode cX11_begins 96 = .ok (.aload_n 0, 1) := by decide +kernel
theorem dX11_begins_97 : decode cX11_begins 97 = .ok (.bipush 8, 2) := by decide +kernel
theorem dX11_begins_99 : decode cX11_begins 99 = .ok (.iload_n 1, 1) := by decide +kernel
theorem dX11_begins_100 : decode cX11_begins 100 = .ok (.invokestatic 120, 3) := by decide +kernel
theorem dX11_begins_103 : decode cX11_begins 103 = .ok (.invokevirtual 114, 3) := by decide +kernel
theorem dX11_begins_106 : decode cX11_begins 106 = .ok (.aload_n 0, 1) := by decide +kernel
theorem dX11_begins_107 : decode cX11_begins 107 = .ok (.iconst 5, 1) := by decide +kernel
theorem dX11_begins_108 : decode cX11_begins 108 = .ok (.putfield 108, 3) := by decide +kernel
theorem dX11_begins_111 : decode cX11_begins 111 = .ok (.iconst 1, 1) := by decide +kernel
theorem dX11_begins_112 : decode cX11_begins 112 = .ok (.ireturn, 1) := by decide +kernel
theorem dX11_begins_113 : decode cX11_begins 113 = .ok (.iconst 0, 1) := by decide +kernel
theorem dX11_begins_114 : decode cX11_begins 114 = .ok (.ireturn, 1) := by decide +kernel
theorem dX11_endsNumber_0 : decode cX11_endsNumber 0 = .ok (.aload_n 0, 1) := by decide +kernel
theorem dX11_endsNumber_1 : decode cX11_endsNumber 1 = .ok (.getfield 108, 3) := by decide +kernel
theorem dX11_endsNumber_4 : decode cX11_endsNumber 4 = .ok (.iconst 1, 1) := by decide +kernel
theorem dX11_endsNumber_5 : decode cX11_endsNumber 5 = .ok (.if_icmp .ne 21, 3) := by decide +kernel
theorem dX11_endsNumber_8 : decode cX11_endsNumber 8 = .ok (.aload_n 0, 1) := by decide +kernel
theorem dX11_endsNumber_9 : decode cX11_endsNumber 9 = .ok (.iconst 0, 1) := by decide +kernel
theorem dX11_endsNumber_10 : decode cX11_endsNumber 10 = .ok (.aload_n 0, 1) := by decide +kernel
theorem dX11_endsNumber_11 : decode cX11_endsNumber 11 = .ok (.getfield 105, 3) := by decide +kernel
theorem dX11_endsNumber_14 : decode cX11_endsNumber 14 = .ok (.invokevirtual 90, 3) := by decide +kernel
theorem dX11_endsNumber_17 : decode cX11_endsNumber 17 = .ok (.aload_n 0, 1) := by decide +kernel
theorem dX11_endsNumber_18 : decode cX11_endsNumber 18 = .ok (.invokevirtual 111, 3) := by decide +kernel
theorem dX11_endsNumber_21 : decode cX11_endsNumber 21 = .ok (.aload_n 0, 1) := by decide +kernel
theorem dX11_endsNumber_22 : decode cX11_endsNumber 22 = .ok (.iconst 2, 1) := by decide +kernel
theorem dX11_endsNumber_23 : decode cX11_endsNumber 23 = .ok (.putfield 108, 3) := by decide +kernel
theorem dX11_endsNumber_26 : decode cX11_endsNumber 26 = .ok (.return_, 1) := by decide +kernel
theorem dX11_follows_0 : decode cX11_follows 0 = .ok (.iload_n 1, 1) := by decide +kernel
theorem dX11_follows_1 : decode cX11_follows 1 = .ok (.bipush 94, 2) := by decide +kernel
theorem dX11_follows_3 : decode cX11_follows 3 = .ok (.if_icmp .ne 18, 3) := by decide +kernel
theorem dX11_follows_6 : decode cX11_follows 6 = .ok (.aload_n 0, 1) := by decide +kernel
theorem dX11_follows_7 : decode cX11_follows 7 = .ok (.getfield 108, 3) := by decide +kernel
theorem dX11_follows_10 : decode cX11_follows 10 = .ok (.iconst 2, 1) := by decide +kernel
theorem dX11_follows_11 : decode cX11_follows 11 = .ok (.if_icmp .ne 10, 3) := by decide +kernel
theorem dX11_follows_14 : decode cX11_follows 14 = .ok (.aload_n 0, 1) := by decide +kernel
theorem dX11_follows_15 : decode cX11_follows 15 = .ok (.iconst 4, 1) := by decide +kernel
theorem dX11_follows_16 : decode cX11_follows 16 = .ok (.putfield 108, 3) := by decide +kernel
theorem dX11_follows_19 : decode cX11_follows 19 = .ok (.iconst 1, 1) := by decide +kernel
theorem dX11_follows_20 : decode cX11_follows 20 = .ok (.ireturn, 1) := by decide +kernel
theorem dX11_follows_21 : decode cX11_follows 21 = .ok (.iload_n 1, 1) := by decide +kernel
theorem dX11_follows_22 : decode cX11_follows 22 = .ok (.bipush 41, 2) := by decide +kernel
theorem dX11_follows_24 : decode cX11_follows 24 = .ok (.if_icmp .ne 59, 3) := by decide +kernel
theorem dX11_follows_27 : decode cX11_follows 27 = .ok (.aload_n 0, 1) := by decide +kernel
theorem dX11_follows_28 : decode cX11_follows 28 = .ok (.getfield 117, 3) := by decide +kernel
theorem dX11_follows_31 : decode cX11_follows 31 = .ok (.ifCond .le 52, 3) := by decide +kernel
theorem dX11_follows_34 : decode cX11_follows 34 = .ok (.aload_n 0, 1) := by decide +kernel
theorem dX11_follows_35 : decode cX11_follows 35 = .ok (.iconst 1, 1) := by decide +kernel
theorem dX11_follows_36 : decode cX11_follows 36 = .ok (.invokevirtual 123, 3) := by decide +kernel
theorem dX11_follows_39 : decode cX11_follows 39 = .ok (.aload_n 0, 1) := by decide +kernel
theorem dX11_follows_40 : decode cX11_follows 40 = .ok (.dup, 1) := by decide +kernel
theorem dX11_follows_41 : decode cX11_follows 41 = .ok (.getfield 87, 3) := by decide +kernel
theorem dX11_follows_44 : decode cX11_follows 44 = .ok (.iconst 1, 1) := by decide +kernel
theorem dX11_follows_45 : decode cX11_follows 45 = .ok (.isub, 1) := by decide +kernel
theorem dX11_follows_46 : decode cX11_follows 46 = .ok (.putfield 87, 3) := by decide +kernel
theorem dX11_follows_49 : decode cX11_follows 49 = .ok (.aload_n 0, 1) := by decide +kernel
theorem dX11_follows_50 : decode cX11_follows 50 = .ok (.dup, 1) := by decide +kernel
theorem dX11_follows_51 : decode cX11_follows 51 = .ok (.getfield 117, 3) := by decide +kernel
theorem dX11_follows_54 : decode cX11_follows 54 = .ok (.iconst 1, 1) := by decide +kernel
theorem dX11_follows_55 : decode cX11_follows 55 = .ok (.isub, 1) := by decide +kernel
theorem dX11_follows_56 : decode cX11_follows 56 = .ok (.putfield 117, 3) := by decide +kernel
theorem dX11_follows_59 : decode cX11_follows 59 = .ok (.aload_n 0, 1) := by decide +kernel
theorem dX11_follows_60 : decode cX11_follows 60 = .ok (.invokevirtual 94, 3) := by decide +kernel
theorem dX11_follows_63 : decode cX11_follows 63 = .ok (.bipush 8, 2) := by decide +kernel
theorem dX11_follows_65 : decode cX11_follows 65 = .ok (.if_icmp .ne 7, 3) := by decide +kernel
theorem dX11_follows_68 : decode cX11_follows 68 = .ok (.aload_n 0, 1) := by decide +kernel
theorem dX11_follows_69 : decode cX11_follows 69 = .ok (.invokevirtual 98, 3) := by decide +kernel
theorem dX11_follows_72 : decode cX11_follows 72 = .ok (.aload_n 0, 1) := by decide +kernel
theorem dX11_follows_73 : decode cX11_follows 73 = .ok (.invokevirtual 111, 3) := by decide +kernel
theorem dX11_follows_76 : decode cX11_follows 76 = .ok (.aload_n 0, 1) := by decide +kernel
theorem dX11_follows_77 : decode cX11_follows 77 = .ok (.iconst 2, 1) := by decide +kernel
theorem dX11_follows_78 : decode cX11_follows 78 = .ok (.putfield 108, 3) := by decide +kernel
theorem dX11_follows_81 : decode cX11_follows 81 = .ok (.iconst 1, 1) := by decide +kernel
theorem dX11_follows_82 : decode cX11_follows 82 = .ok (.ireturn, 1) := by decide +kernel
theorem dX11_follows_83 : decode cX11_follows 83 = .ok (.iload_n 1, 1) := by decide +kernel
theorem dX11_follows_84 : decode cX11_follows 84 = .ok (.bipush 43, 2) := by decide +kernel
theorem dX11_follows_86 : decode cX11_follows 86 = .ok (.if_icmp .eq 9, 3) := by decide +kernel
theorem dX11_follows_89 : decode cX11_follows 89 = .ok (.iload_n 1, 1) := by decide +kernel
theorem dX11_follows_90 : decode cX11_follows 90 = .ok (.bipush 45, 2) := by decide +kernel
theorem dX11_follows_92 : decode cX11_follows 92 = .ok (.if_icmp .ne 7, 3) := by decide +kernel
theorem dX11_follows_95 : decode cX11_follows 95 = .ok (.iconst 1, 1) := by decide +kernel
theorem dX11_follows_96 : decode cX11_follows 96 = .ok (.goto 4, 3) := by decide +kernel
theorem dX11_follows_99 : decode cX11_follows 99 = .ok (.iconst 0, 1) := by decide +kernel
theorem dX11_follows_100 : decode cX11_follows 100 = .ok (.istore_n 2, 1) := by decide +kernel
theorem dX11_follows_101 : decode cX11_follows 101 = .ok (.iload_n 2, 1) := by decide +kernel
theorem dX11_follows_102 : decode cX11_follows 102 = .ok (.ifCond .ne 15, 3) := by decide +kernel
theorem dX11_follows_105 : decode cX11_follows 105 = .ok (.iload_n 1, 1) := by decide +kernel
theorem dX11_follows_106 : decode cX11_follows 106 = .ok (.bipush 42, 2) := by decide +kernel
theorem dX11_follows_108 : decode cX11_follows 108 = .ok (.if_icmp .eq 9, 3) := by decide +kernel
theorem dX11_follows_111 : decode cX11_follows 111 = .ok (.iload_n 1, 1) := by decide +kernel
theorem dX11_follows_112 : decode cX11_follows 112 = .ok (.bipush 47, 2) := by decide +kernel
theorem dX11_follows_114 : decode cX11_follows 114 = .ok (.if_icmp .ne 52, 3) := by decide +kernel
theorem dX11_follows_117 : decode cX11_follows 117 = .ok (.aload_n 0, 1) := by decide +kernel
theorem dX11_follows_118 : decode cX11_follows 118 = .ok (.iload_n 2, 1) := by decide +kernel
theorem dX11_follows_119 : decode cX11_follows 119 = .ok (.invokevirtual 123, 3) := by decide +kernel
theorem dX11_follows_122 : decode cX11_follows 122 = .ok (.aload_n 0, 1) := by decide +kernel
theorem dX11_follows_123 : decode cX11_follows 123 = .ok (.iload_n 1, 1) := by decide +kernel
theorem dX11_follows_124 : decode cX11_follows 124 = .ok (.bipush 43, 2) := by decide +kernel
theorem dX11_follows_126 : decode cX11_follows 126 = .ok (.if_icmp .ne 7, 3) := by decide +kernel
theorem dX11_follows_129 : decode cX11_follows 129 = .ok (.iconst 3, 1) := by decide +kernel
theorem dX11_follows_130 : decode cX11_follows 130 = .ok (.goto 25, 3) := by decide +kernel
theorem dX11_follows_133 : decode cX11_follows 133 = .ok (.iload_n 1, 1) := by decide +kernel
theorem dX11_follows_134 : decode cX11_follows 134 = .ok (.bipush 45, 2) := by decide +kernel
theorem dX11_follows_136 : decode cX11_follows 136 = .ok (.if_icmp .ne 7, 3) := by decide +kernel
theorem dX11_follows_139 : decode cX11_follows 139 = .ok (.iconst 4, 1) := by decide +kernel
theorem dX11_follows_140 : decode cX11_follows 140 = .ok (.goto 15, 3) := by decide +kernel
theorem dX11_follows_143 : decode cX11_follows 143 = .ok (.iload_n 1, 1) := by decide +kernel
theorem dX11_follows_144 : decode cX11_follows 144 = .ok (.bipush 42, 2) := by decide +kernel
theorem dX11_follows_146 : decode cX11_follows 146 = .ok (.if_icmp .ne 7, 3) := by decide +kernel
theorem dX11_follows_149 : decode cX11_follows 149 = .ok (.iconst 5, 1) := by decide +kernel
theorem dX11_follows_150 : decode cX11_follows 150 = .ok (.goto 5, 3) := by decide +kernel
theorem dX11_follows_153 : decode cX11_follows 153 = .ok (.bipush 6, 2) := by decide +kernel
theorem dX11_follows_155 : decode cX11_follows 155 = .ok (.iconst 0, 1) := by decide +kernel
theorem dX11_follows_156 : decode cX11_follows 156 = .ok (.invokevirtual 114, 3) := by decide +kernel
theorem dX11_follows_159 : decode cX11_follows 159 = .ok (.aload_n 0, 1) := by decide +kernel
theorem dX11_follows_160 : decode cX11_follows 160 = .ok (.iconst 0, 1) := by decide +kernel
theorem dX11_follows_161 : decode cX11_follows 161 = .ok (.putfield 108, 3) := by decide +kernel
theorem dX11_follows_164 : decode cX11_follows 164 = .ok (.iconst 1, 1) := by decide +kernel
theorem dX11_follows_165 : decode cX11_follows 165 = .ok (.ireturn, 1) := by decide +kernel
theorem dX11_follows_166 : decode cX11_follows 166 = .ok (.iconst 0, 1) := by decide +kernel
theorem dX11_follows_167 : decode cX11_follows 167 = .ok (.ireturn, 1) := by decide +kernel
theorem dX11_reads_0 : decode cX11_reads 0 = .ok (.aload_n 0, 1) := by decide +kernel
theorem dX11_reads_1 : decode cX11_reads 1 = .ok (.getfield 108, 3) := by decide +kernel
theorem dX11_reads_4 : decode cX11_reads 4 = .ok (.ifCond .ne 9, 3) := by decide +kernel
theorem dX11_reads_7 : decode cX11_reads 7 = .ok (.aload_n 0, 1) := by decide +kernel
theorem dX11_reads_8 : decode cX11_reads 8 = .ok (.iload_n 1, 1) := by decide +kernel
theorem dX11_reads_9 : decode cX11_reads 9 = .ok (.invokevirtual 127, 3) := by decide +kernel
theorem dX11_reads_12 : decode cX11_reads 12 = .ok (.ireturn, 1) := by decide +kernel
theorem dX11_reads_13 : decode cX11_reads 13 = .ok (.aload_n 0, 1) := by decide +kernel
theorem dX11_reads_14 : decode cX11_reads 14 = .ok (.getfield 108, 3) := by decide +kernel
theorem dX11_reads_17 : decode cX11_reads 17 = .ok (.iconst 4, 1) := by decide +kernel
theorem dX11_reads_18 : decode cX11_reads 18 = .ok (.if_icmp .ne 33, 3) := by decide +kernel
theorem dX11_reads_21 : decode cX11_reads 21 = .ok (.iload_n 1, 1) := by decide +kernel
theorem dX11_reads_22 : decode cX11_reads 22 = .ok (.bipush 48, 2) := by decide +kernel
theorem dX11_reads_24 : decode cX11_reads 24 = .ok (.bipush 57, 2) := by decide +kernel
theorem dX11_reads_26 : decode cX11_reads 26 = .ok (.invokestatic 101, 3) := by decide +kernel
theorem dX11_reads_29 : decode cX11_reads 29 = .ok (.istore_n 2, 1) := by decide +kernel
theorem dX11_reads_30 : decode cX11_reads 30 = .ok (.iload_n 2, 1) := by decide +kernel
theorem dX11_reads_31 : decode cX11_reads 31 = .ok (.ifCond .eq 13, 3) := by decide +kernel
theorem dX11_reads_34 : decode cX11_reads 34 = .ok (.aload_n 0, 1) := by decide +kernel
theorem dX11_reads_35 : decode cX11_reads 35 = .ok (.bipush 7, 2) := by decide +kernel
theorem dX11_reads_37 : decode cX11_reads 37 = .ok (.iload_n 1, 1) := by decide +kernel
theorem dX11_reads_38 : decode cX11_reads 38 = .ok (.bipush 48, 2) := by decide +kernel
theorem dX11_reads_40 : decode cX11_reads 40 = .ok (.isub, 1) := by decide +kernel
theorem dX11_reads_41 : decode cX11_reads 41 = .ok (.invokevirtual 90, 3) := by decide +kernel
theorem dX11_reads_44 : decode cX11_reads 44 = .ok (.aload_n 0, 1) := by decide +kernel
theorem dX11_reads_45 : decode cX11_reads 45 = .ok (.iconst 3, 1) := by decide +kernel
theorem dX11_reads_46 : decode cX11_reads 46 = .ok (.putfield 108, 3) := by decide +kernel
theorem dX11_reads_49 : decode cX11_reads 49 = .ok (.iload_n 2, 1) := by decide +kernel
theorem dX11_reads_50 : decode cX11_reads 50 = .ok (.ireturn, 1) := by decide +kernel
theorem dX11_reads_51 : decode cX11_reads 51 = .ok (.aload_n 0, 1) := by decide +kernel
theorem dX11_reads_52 : decode cX11_reads 52 = .ok (.getfield 108, 3) := by decide +kernel
theorem dX11_reads_55 : decode cX11_reads 55 = .ok (.iconst 5, 1) := by decide +kernel
theorem dX11_reads_56 : decode cX11_reads 56 = .ok (.if_icmp .ne 37, 3) := by decide +kernel
theorem dX11_reads_59 : decode cX11_reads 59 = .ok (.aload_n 0, 1) := by decide +kernel
theorem dX11_reads_60 : decode cX11_reads 60 = .ok (.bipush 9, 2) := by decide +kernel
theorem dX11_reads_62 : decode cX11_reads 62 = .ok (.iconst 0, 1) := by decide +kernel
theorem dX11_reads_63 : decode cX11_reads 63 = .ok (.invokevirtual 114, 3) := by decide +kernel
theorem dX11_reads_66 : decode cX11_reads 66 = .ok (.aload_n 0, 1) := by decide +kernel
theorem dX11_reads_67 : decode cX11_reads 67 = .ok (.dup, 1) := by decide +kernel
theorem dX11_reads_68 : decode cX11_reads 68 = .ok (.getfield 117, 3) := by decide +kernel
theorem dX11_reads_71 : decode cX11_reads 71 = .ok (.iconst 1, 1) := by decide +kernel
theorem dX11_reads_72 : decode cX11_reads 72 = .ok (.iadd, 1) := by decide +kernel
theorem dX11_reads_73 : decode cX11_reads 73 = .ok (.putfield 117, 3) := by decide +kernel
theorem dX11_reads_76 : decode cX11_reads 76 = .ok (.aload_n 0, 1) := by decide +kernel
theorem dX11_reads_77 : decode cX11_reads 77 = .ok (.iconst 0, 1) := by decide +kernel
theorem dX11_reads_78 : decode cX11_reads 78 = .ok (.putfield 108, 3) := by decide +kernel
theorem dX11_reads_81 : decode cX11_reads 81 = .ok (.iload_n 1, 1) := by decide +kernel
theorem dX11_reads_82 : decode cX11_reads 82 = .ok (.bipush 40, 2) := by decide +kernel
theorem dX11_reads_84 : decode cX11_reads 84 = .ok (.if_icmp .ne 7, 3) := by decide +kernel
theorem dX11_reads_87 : decode cX11_reads 87 = .ok (.iconst 1, 1) := by decide +kernel
theorem dX11_reads_88 : decode cX11_reads 88 = .ok (.goto 4, 3) := by decide +kernel
theorem dX11_reads_91 : decode cX11_reads 91 = .ok (.iconst 0, 1) := by decide +kernel
theorem dX11_reads_92 : decode cX11_reads 92 = .ok (.ireturn, 1) := by decide +kernel
theorem dX11_reads_93 : decode cX11_reads 93 = .ok (.aload_n 0, 1) := by decide +kernel
theorem dX11_reads_94 : decode cX11_reads 94 = .ok (.getfield 108, 3) := by decide +kernel
theorem dX11_reads_97 : decode cX11_reads 97 = .ok (.iconst 1, 1) := by decide +kernel
theorem dX11_reads_98 : decode cX11_reads 98 = .ok (.if_icmp .ne 54, 3) := by decide +kernel
theorem dX11_reads_101 : decode cX11_reads 101 = .ok (.iload_n 1, 1) := by decide +kernel
theorem dX11_reads_102 : decode cX11_reads 102 = .ok (.bipush 48, 2) := by decide +kernel
theorem dX11_reads_104 : decode cX11_reads 104 = .ok (.bipush 57, 2) := by decide +kernel
theorem dX11_reads_106 : decode cX11_reads 106 = .ok (.invokestatic 101, 3) := by decide +kernel
theorem dX11_reads_109 : decode cX11_reads 109 = .ok (.ifCond .eq 43, 3) := by decide +kernel
theorem dX11_reads_112 : decode cX11_reads 112 = .ok (.aload_n 0, 1) := by decide +kernel
theorem dX11_reads_113 : decode cX11_reads 113 = .ok (.getfield 105, 3) := by decide +kernel
theorem dX11_reads_116 : decode cX11_reads 116 = .ok (.ifCond .le 16, 3) := by decide +kernel
theorem dX11_reads_119 : decode cX11_reads 119 = .ok (.aload_n 0, 1) := by decide +kernel
theorem dX11_reads_120 : decode cX11_reads 120 = .ok (.getfield 105, 3) := by decide +kernel
theorem dX11_reads_123 : decode cX11_reads 123 = .ok (.bipush 100, 2) := by decide +kernel
theorem dX11_reads_125 : decode cX11_reads 125 = .ok (.if_icmp .ge 7, 3) := by decide +kernel
theorem dX11_reads_128 : decode cX11_reads 128 = .ok (.iconst 1, 1) := by decide +kernel
theorem dX11_reads_129 : decode cX11_reads 129 = .ok (.goto 4, 3) := by decide +kernel
theorem dX11_reads_132 : decode cX11_reads 132 = .ok (.iconst 0, 1) := by decide +kernel
theorem dX11_reads_133 : decode cX11_reads 133 = .ok (.istore_n 2, 1) := by decide +kernel
theorem dX11_reads_134 : decode cX11_reads 134 = .ok (.aload_n 0, 1) := by decide +kernel
theorem dX11_reads_135 : decode cX11_reads 135 = .ok (.bipush 10, 2) := by decide +kernel
theorem dX11_reads_137 : decode cX11_reads 137 = .ok (.aload_n 0, 1) := by decide +kernel
theorem dX11_reads_138 : decode cX11_reads 138 = .ok (.getfield 105, 3) := by decide +kernel
theorem dX11_reads_141 : decode cX11_reads 141 = .ok (.imul, 1) := by decide +kernel
theorem dX11_reads_142 : decode cX11_reads 142 = .ok (.iload_n 1, 1) := by decide +kernel
theorem dX11_reads_143 : decode cX11_reads 143 = .ok (.iadd, 1) := by decide +kernel
theorem dX11_reads_144 : decode cX11_reads 144 = .ok (.bipush 48, 2) := by decide +kernel
theorem dX11_reads_146 : decode cX11_reads 146 = .ok (.isub, 1) := by decide +kernel
theorem dX11_reads_147 : decode cX11_reads 147 = .ok (.putfield 105, 3) := by decide +kernel
theorem dX11_reads_150 : decode cX11_reads 150 = .ok (.iload_n 2, 1) := by decide +kernel
theorem dX11_reads_151 : decode cX11_reads 151 = .ok (.ireturn, 1) := by decide +kernel
theorem dX11_reads_152 : decode cX11_reads 152 = .ok (.aload_n 0, 1) := by decide +kernel
theorem dX11_reads_153 : decode cX11_reads 153 = .ok (.invokevirtual 131, 3) := by decide +kernel
theorem dX11_reads_156 : decode cX11_reads 156 = .ok (.aload_n 0, 1) := by decide +kernel
theorem dX11_reads_157 : decode cX11_reads 157 = .ok (.iload_n 1, 1) := by decide +kernel
theorem dX11_reads_158 : decode cX11_reads 158 = .ok (.invokevirtual 134, 3) := by decide +kernel
theorem dX11_reads_161 : decode cX11_reads 161 = .ok (.ireturn, 1) := by decide +kernel
theorem dX11_readText_0 : decode cX11_readText 0 = .ok (.aload_n 0, 1) := by decide +kernel
theorem dX11_readText_1 : decode cX11_readText 1 = .ok (.iconst 0, 1) := by decide +kernel
theorem dX11_readText_2 : decode cX11_readText 2 = .ok (.putfield 84, 3) := by decide +kernel
theorem dX11_readText_5 : decode cX11_readText 5 = .ok (.aload_n 0, 1) := by decide +kernel
theorem dX11_readText_6 : decode cX11_readText 6 = .ok (.iconst 0, 1) := by decide +kernel
theorem dX11_readText_7 : decode cX11_readText 7 = .ok (.putfield 87, 3) := by decide +kernel
theorem dX11_readText_10 : decode cX11_readText 10 = .ok (.aload_n 0, 1) := by decide +kernel
theorem dX11_readText_11 : decode cX11_readText 11 = .ok (.iconst 0, 1) := by decide +kernel
theorem dX11_readText_12 : decode cX11_readText 12 = .ok (.putfield 108, 3) := by decide +kernel
theorem dX11_readText_15 : decode cX11_readText 15 = .ok (.aload_n 0, 1) := by decide +kernel
theorem dX11_readText_16 : decode cX11_readText 16 = .ok (.iconst 0, 1) := by decide +kernel
theorem dX11_readText_17 : decode cX11_readText 17 = .ok (.putfield 117, 3) := by decide +kernel
theorem dX11_readText_20 : decode cX11_readText 20 = .ok (.iconst 0, 1) := by decide +kernel
theorem dX11_readText_21 : decode cX11_readText 21 = .ok (.istore_n 1, 1) := by decide +kernel
theorem dX11_readText_22 : decode cX11_readText 22 = .ok (.iload_n 1, 1) := by decide +kernel
theorem dX11_readText_23 : decode cX11_readText 23 = .ok (.aload_n 0, 1) := by decide +kernel
theorem dX11_readText_24 : decode cX11_readText 24 = .ok (.getfield 81, 3) := by decide +kernel
theorem dX11_readText_27 : decode cX11_readText 27 = .ok (.if_icmp .ge 24, 3) := by decide +kernel
theorem dX11_readText_30 : decode cX11_readText 30 = .ok (.aload_n 0, 1) := by decide +kernel
theorem dX11_readText_31 : decode cX11_readText 31 = .ok (.aload_n 0, 1) := by decide +kernel
theorem dX11_readText_32 : decode cX11_readText 32 = .ok (.getfield 19, 3) := by decide +kernel
theorem dX11_readText_35 : decode cX11_readText 35 = .ok (.iload_n 1, 1) := by decide +kernel
theorem dX11_readText_36 : decode cX11_readText 36 = .ok (.caload, 1) := by decide +kernel
theorem dX11_readText_37 : decode cX11_readText 37 = .ok (.invokevirtual 137, 3) := by decide +kernel
theorem dX11_readText_40 : decode cX11_readText 40 = .ok (.ifCond .ne 5, 3) := by decide +kernel
theorem dX11_readText_43 : decode cX11_readText 43 = .ok (.iload_n 1, 1) := by decide +kernel
theorem dX11_readText_44 : decode cX11_readText 44 = .ok (.ireturn, 1) := by decide +kernel
theorem dX11_readText_45 : decode cX11_readText 45 = .ok (.iinc 1 1, 3) := by decide +kernel
theorem dX11_readText_48 : decode cX11_readText 48 = .ok (.goto (-26), 3) := by decide +kernel
theorem dX11_readText_51 : decode cX11_readText 51 = .ok (.aload_n 0, 1) := by decide +kernel
theorem dX11_readText_52 : decode cX11_readText 52 = .ok (.getfield 108, 3) := by decide +kernel
theorem dX11_readText_55 : decode cX11_readText 55 = .ok (.ifCond .eq 18, 3) := by decide +kernel
theorem dX11_readText_58 : decode cX11_readText 58 = .ok (.aload_n 0, 1) := by decide +kernel
theorem dX11_readText_59 : decode cX11_readText 59 = .ok (.getfield 108, 3) := by decide +kernel
theorem dX11_readText_62 : decode cX11_readText 62 = .ok (.iconst 3, 1) := by decide +kernel
theorem dX11_readText_63 : decode cX11_readText 63 = .ok (.if_icmp .gt 10, 3) := by decide +kernel
theorem dX11_readText_66 : decode cX11_readText 66 = .ok (.aload_n 0, 1) := by decide +kernel
theorem dX11_readText_67 : decode cX11_readText 67 = .ok (.getfield 117, 3) := by decide +kernel
theorem dX11_readText_70 : decode cX11_readText 70 = .ok (.ifCond .le 8, 3) := by decide +kernel
theorem dX11_readText_73 : decode cX11_readText 73 = .ok (.aload_n 0, 1) := by decide +kernel
theorem dX11_readText_74 : decode cX11_readText 74 = .ok (.getfield 81, 3) := by decide +kernel
theorem dX11_readText_77 : decode cX11_readText 77 = .ok (.ireturn, 1) := by decide +kernel
theorem dX11_readText_78 : decode cX11_readText 78 = .ok (.aload_n 0, 1) := by decide +kernel
theorem dX11_readText_79 : decode cX11_readText 79 = .ok (.invokevirtual 131, 3) := by decide +kernel
theorem dX11_readText_82 : decode cX11_readText 82 = .ok (.aload_n 0, 1) := by decide +kernel
theorem dX11_readText_83 : decode cX11_readText 83 = .ok (.iconst 1, 1) := by decide +kernel
theorem dX11_readText_84 : decode cX11_readText 84 = .ok (.invokevirtual 123, 3) := by decide +kernel
theorem dX11_readText_87 : decode cX11_readText 87 = .ok (.iconst (-1), 1) := by decide +kernel
theorem dX11_readText_88 : decode cX11_readText 88 = .ok (.ireturn, 1) := by decide +kernel
theorem dX11_textError_0 : decode cX11_textError 0 = .ok (.aload_n 0, 1) := by decide +kernel
theorem dX11_textError_1 : decode cX11_textError 1 = .ok (.aload_n 0, 1) := by decide +kernel
theorem dX11_textError_2 : decode cX11_textError 2 = .ok (.invokevirtual 140, 3) := by decide +kernel
theorem dX11_textError_5 : decode cX11_textError 5 = .ok (.invokevirtual 74, 3) := by decide +kernel
theorem dX11_textError_8 : decode cX11_textError 8 = .ok (.ireturn, 1) := by decide +kernel
theorem dX11_least_0 : decode cX11_least 0 = .ok (.iconst 0, 1) := by decide +kernel
theorem dX11_least_1 : decode cX11_least 1 = .ok (.istore_n 1, 1) := by decide +kernel
theorem dX11_least_2 : decode cX11_least 2 = .ok (.iconst 0, 1) := by decide +kernel
theorem dX11_least_3 : decode cX11_least 3 = .ok (.istore_n 2, 1) := by decide +kernel
theorem dX11_least_4 : decode cX11_least 4 = .ok (.iload_n 2, 1) := by decide +kernel
theorem dX11_least_5 : decode cX11_least 5 = .ok (.aload_n 0, 1) := by decide +kernel
theorem dX11_least_6 : decode cX11_least 6 = .ok (.getfield 84, 3) := by decide +kernel
theorem dX11_least_9 : decode cX11_least 9 = .ok (.if_icmp .ge 43, 3) := by decide +kernel
theorem dX11_least_12 : decode cX11_least 12 = .ok (.aload_n 0, 1) := by decide +kernel
theorem dX11_least_13 : decode cX11_least 13 = .ok (.getfield 23, 3) := by decide +kernel
theorem dX11_least_16 : decode cX11_least 16 = .ok (.iload_n 2, 1) := by decide +kernel
theorem dX11_least_17 : decode cX11_least 17 = .ok (.iaload, 1) := by decide +kernel
theorem dX11_least_18 : decode cX11_least 18 = .ok (.bipush 8, 2) := by decide +kernel
theorem dX11_least_20 : decode cX11_least 20 = .ok (.if_icmp .ne 24, 3) := by decide +kernel
theorem dX11_least_23 : decode cX11_least 23 = .ok (.aload_n 0, 1) := by decide +kernel
theorem dX11_least_24 : decode cX11_least 24 = .ok (.getfield 26, 3) := by decide +kernel
theorem dX11_least_27 : decode cX11_least 27 = .ok (.iload_n 2, 1) := by decide +kernel
theorem dX11_least_28 : decode cX11_least 28 = .ok (.iaload, 1) := by decide +kernel
theorem dX11_least_29 : decode cX11_least 29 = .ok (.iload_n 1, 1) := by decide +kernel
theorem dX11_least_30 : decode cX11_least 30 = .ok (.if_icmp .lt 14, 3) := by decide +kernel
theorem dX11_least_33 : decode cX11_least 33 = .ok (.aload_n 0, 1) := by decide +kernel
theorem dX11_least_34 : decode cX11_least 34 = .ok (.getfield 26, 3) := by decide +kernel
theorem dX11_least_37 : decode cX11_least 37 = .ok (.iload_n 2, 1) := by decide +kernel
theorem dX11_least_38 : decode cX11_least 38 = .ok (.iaload, 1) := by decide +kernel
theorem dX11_least_39 : decode cX11_least 39 = .ok (.iconst 1, 1) := by decide +kernel
theorem dX11_least_40 : decode cX11_least 40 = .ok (.iadd, 1) := by decide +kernel
theorem dX11_least_41 : decode cX11_least 41 = .ok (.goto 4, 3) := by decide +kernel
theorem dX11_least_44 : decode cX11_least 44 = .ok (.iload_n 1, 1) := by decide +kernel
theorem dX11_least_45 : decode cX11_least 45 = .ok (.istore_n 1, 1) := by decide +kernel
theorem dX11_least_46 : decode cX11_least 46 = .ok (.iinc 2 1, 3) := by decide +kernel
theorem dX11_least_49 : decode cX11_least 49 = .ok (.goto (-45), 3) := by decide +kernel
theorem dX11_least_52 : decode cX11_least 52 = .ok (.iload_n 1, 1) := by decide +kernel
theorem dX11_least_53 : decode cX11_least 53 = .ok (.ireturn, 1) := by decide +kernel
theorem dX11_leastToDefine_0 : decode cX11_leastToDefine 0 = .ok (.aload_n 0, 1) := by decide +kernel
theorem dX11_leastToDefine_1 : decode cX11_leastToDefine 1 = .ok (.aload_n 0, 1) := by decide +kernel
theorem dX11_leastToDefine_2 : decode cX11_leastToDefine 2 = .ok (.invokevirtual 140, 3) := by decide +kernel
theorem dX11_leastToDefine_5 : decode cX11_leastToDefine 5 = .ok (.iconst (-1), 1) := by decide +kernel
theorem dX11_leastToDefine_6 : decode cX11_leastToDefine 6 = .ok (.if_icmp .ne 7, 3) := by decide +kernel
theorem dX11_leastToDefine_9 : decode cX11_leastToDefine 9 = .ok (.iconst 1, 1) := by decide +kernel
theorem dX11_leastToDefine_10 : decode cX11_leastToDefine 10 = .ok (.goto 4, 3) := by decide +kernel
theorem dX11_leastToDefine_13 : decode cX11_leastToDefine 13 = .ok (.iconst 0, 1) := by decide +kernel
theorem dX11_leastToDefine_14 : decode cX11_leastToDefine 14 = .ok (.invokevirtual 66, 3) := by decide +kernel
theorem dX11_leastToDefine_17 : decode cX11_leastToDefine 17 = .ok (.ifCond .ne 5, 3) := by decide +kernel
theorem dX11_leastToDefine_20 : decode cX11_leastToDefine 20 = .ok (.iconst 0, 1) := by decide +kernel
theorem dX11_leastToDefine_21 : decode cX11_leastToDefine 21 = .ok (.ireturn, 1) := by decide +kernel
theorem dX11_leastToDefine_22 : decode cX11_leastToDefine 22 = .ok (.aload_n 0, 1) := by decide +kernel
theorem dX11_leastToDefine_23 : decode cX11_leastToDefine 23 = .ok (.invokevirtual 143, 3) := by decide +kernel
theorem dX11_leastToDefine_26 : decode cX11_leastToDefine 26 = .ok (.iconst 4, 1) := by decide +kernel
theorem dX11_leastToDefine_27 : decode cX11_leastToDefine 27 = .ok (.if_icmp .ge 10, 3) := by decide +kernel
theorem dX11_leastToDefine_30 : decode cX11_leastToDefine 30 = .ok (.aload_n 0, 1) := by decide +kernel
theorem dX11_leastToDefine_31 : decode cX11_leastToDefine 31 = .ok (.invokevirtual 143, 3) := by decide +kernel
theorem dX11_leastToDefine_34 : decode cX11_leastToDefine 34 = .ok (.goto 4, 3) := by decide +kernel
theorem dX11_leastToDefine_37 : decode cX11_leastToDefine 37 = .ok (.iconst (-1), 1) := by decide +kernel
theorem dX11_leastToDefine_38 : decode cX11_leastToDefine 38 = .ok (.ireturn, 1) := by decide +kernel
theorem dX11_isFunction_0 : decode cX11_isFunction 0 = .ok (.iload_n 0, 1) := by decide +kernel
theorem dX11_isFunction_1 : decode cX11_isFunction 1 = .ok (.iconst 0, 1) := by decide +kernel
theorem dX11_isFunction_2 : decode cX11_isFunction 2 = .ok (.iconst 3, 1) := by decide +kernel
theorem dX11_isFunction_3 : decode cX11_isFunction 3 = .ok (.invokestatic 101, 3) := by decide +kernel
theorem dX11_isFunction_6 : decode cX11_isFunction 6 = .ok (.ireturn, 1) := by decide +kernel
theorem dX11_gets_0 : decode cX11_gets 0 = .ok (.aload_n 0, 1) := by decide +kernel
theorem dX11_gets_1 : decode cX11_gets 1 = .ok (.getfield 7, 3) := by decide +kernel
theorem dX11_gets_4 : decode cX11_gets 4 = .ok (.iconst 1, 1) := by decide +kernel
theorem dX11_gets_5 : decode cX11_gets 5 = .ok (.bipush 81, 2) := by decide +kernel
theorem dX11_gets_7 : decode cX11_gets 7 = .ok (.iload_n 1, 1) := by decide +kernel
theorem dX11_gets_8 : decode cX11_gets 8 = .ok (.imul, 1) := by decide +kernel
theorem dX11_gets_9 : decode cX11_gets 9 = .ok (.iadd, 1) := by decide +kernel
theorem dX11_gets_10 : decode cX11_gets 10 = .ok (.aload_n 0, 1) := by decide +kernel
theorem dX11_gets_11 : decode cX11_gets 11 = .ok (.getfield 84, 3) := by decide +kernel
theorem dX11_gets_14 : decode cX11_gets 14 = .ok (.iastore, 1) := by decide +kernel
theorem dX11_gets_15 : decode cX11_gets 15 = .ok (.iconst 0, 1) := by decide +kernel
theorem dX11_gets_16 : decode cX11_gets 16 = .ok (.istore_n 2, 1) := by decide +kernel
theorem dX11_gets_17 : decode cX11_gets 17 = .ok (.iload_n 2, 1) := by decide +kernel
theorem dX11_gets_18 : decode cX11_gets 18 = .ok (.bipush 40, 2) := by decide +kernel
theorem dX11_gets_20 : decode cX11_gets 20 = .ok (.if_icmp .ge 75, 3) := by decide +kernel
theorem dX11_gets_23 : decode cX11_gets 23 = .ok (.aload_n 0, 1) := by decide +kernel
theorem dX11_gets_24 : decode cX11_gets 24 = .ok (.getfield 7, 3) := by decide +kernel
theorem dX11_gets_27 : decode cX11_gets 27 = .ok (.iconst 2, 1) := by decide +kernel
theorem dX11_gets_28 : decode cX11_gets 28 = .ok (.bipush 81, 2) := by decide +kernel
theorem dX11_gets_30 : decode cX11_gets 30 = .ok (.iload_n 1, 1) := by decide +kernel
theorem dX11_gets_31 : decode cX11_gets 31 = .ok (.imul, 1) := by decide +kernel
theorem dX11_gets_32 : decode cX11_gets 32 = .ok (.iadd, 1) := by decide +kernel
theorem dX11_gets_33 : decode cX11_gets 33 = .ok (.iconst 2, 1) := by decide +kernel
theorem dX11_gets_34 : decode cX11_gets 34 = .ok (.iload_n 2, 1) := by decide +kernel
theorem dX11_gets_35 : decode cX11_gets 35 = .ok (.imul, 1) := by decide +kernel
theorem dX11_gets_36 : decode cX11_gets 36 = .ok (.iadd, 1) := by decide +kernel
theorem dX11_gets_37 : decode cX11_gets 37 = .ok (.iload_n 2, 1) := by decide +kernel
theorem dX11_gets_38 : decode cX11_gets 38 = .ok (.aload_n 0, 1) := by decide +kernel
theorem dX11_gets_39 : decode cX11_gets 39 = .ok (.getfield 84, 3) := by decide +kernel
theorem dX11_gets_42 : decode cX11_gets 42 = .ok (.if_icmp .ge 12, 3) := by decide +kernel
theorem dX11_gets_45 : decode cX11_gets 45 = .ok (.aload_n 0, 1) := by decide +kernel
theorem dX11_gets_46 : decode cX11_gets 46 = .ok (.getfield 23, 3) := by decide +kernel
theorem dX11_gets_49 : decode cX11_gets 49 = .ok (.iload_n 2, 1) := by decide +kernel
theorem dX11_gets_50 : decode cX11_gets 50 = .ok (.iaload, 1) := by decide +kernel
theorem dX11_gets_51 : decode cX11_gets 51 = .ok (.goto 4, 3) := by decide +kernel
theorem dX11_gets_54 : decode cX11_gets 54 = .ok (.iconst 0, 1) := by decide +kernel
theorem dX11_gets_55 : decode cX11_gets 55 = .ok (.iastore, 1) := by decide +kernel
theorem dX11_gets_56 : decode cX11_gets 56 = .ok (.aload_n 0, 1) := by decide +kernel
theorem dX11_gets_57 : decode cX11_gets 57 = .ok (.getfield 7, 3) := by decide +kernel
theorem dX11_gets_60 : decode cX11_gets 60 = .ok (.iconst 3, 1) := by decide +kernel
theorem dX11_gets_61 : decode cX11_gets 61 = .ok (.bipush 81, 2) := by decide +kernel
theorem dX11_gets_63 : decode cX11_gets 63 = .ok (.iload_n 1, 1) := by decide +kernel
theorem dX11_gets_64 : decode cX11_gets 64 = .ok (.imul, 1) := by decide +kernel
theorem dX11_gets_65 : decode cX11_gets 65 = .ok (.iadd, 1) := by decide +kernel
theorem dX11_gets_66 : decode cX11_gets 66 = .ok (.iconst 2, 1) := by decide +kernel
theorem dX11_gets_67 : decode cX11_gets 67 = .ok (.iload_n 2, 1) := by decide +kernel
theorem dX11_gets_68 : decode cX11_gets 68 = .ok (.imul, 1) := by decide +kernel
theorem dX11_gets_69 : decode cX11_gets 69 = .ok (.iadd, 1) := by decide +kernel
theorem dX11_gets_70 : decode cX11_gets 70 = .ok (.iload_n 2, 1) := by decide +kernel
theorem dX11_gets_71 : decode cX11_gets 71 = .ok (.aload_n 0, 1) := by decide +kernel
theorem dX11_gets_72 : decode cX11_gets 72 = .ok (.getfield 84, 3) := by decide +kernel
theorem dX11_gets_75 : decode cX11_gets 75 = .ok (.if_icmp .ge 12, 3) := by decide +kernel
theorem dX11_gets_78 : decode cX11_gets 78 = .ok (.aload_n 0, 1) := by decide +kernel
theorem dX11_gets_79 : decode cX11_gets 79 = .ok (.getfield 26, 3) := by decide +kernel
theorem dX11_gets_82 : decode cX11_gets 82 = .ok (.iload_n 2, 1) := by decide +kernel
theorem dX11_gets_83 : decode cX11_gets 83 = .ok (.iaload, 1) := by decide +kernel
theorem dX11_gets_84 : decode cX11_gets 84 = .ok (.goto 4, 3) := by decide +kernel
theorem dX11_gets_87 : decode cX11_gets 87 = .ok (.iconst 0, 1) := by decide +kernel
theorem dX11_gets_88 : decode cX11_gets 88 = .ok (.iastore, 1) := by decide +kernel
theorem dX11_gets_89 : decode cX11_gets 89 = .ok (.iinc 2 1, 3) := by decide +kernel
theorem dX11_gets_92 : decode cX11_gets 92 = .ok (.goto (-75), 3) := by decide +kernel
theorem dX11_gets_95 : decode cX11_gets 95 = .ok (.aload_n 0, 1) := by decide +kernel
theorem dX11_gets_96 : decode cX11_gets 96 = .ok (.getfield 84, 3) := by decide +kernel
theorem dX11_gets_99 : decode cX11_gets 99 = .ok (.ireturn, 1) := by decide +kernel
theorem dX11_define_0 : decode cX11_define 0 = .ok (.aload_n 0, 1) := by decide +kernel
theorem dX11_define_1 : decode cX11_define 1 = .ok (.iload_n 1, 1) := by decide +kernel
theorem dX11_define_2 : decode cX11_define 2 = .ok (.invokestatic 146, 3) := by decide +kernel
theorem dX11_define_5 : decode cX11_define 5 = .ok (.invokevirtual 66, 3) := by decide +kernel
theorem dX11_define_8 : decode cX11_define 8 = .ok (.pop, 1) := by decide +kernel
theorem dX11_define_9 : decode cX11_define 9 = .ok (.aload_n 0, 1) := by decide +kernel
theorem dX11_define_10 : decode cX11_define 10 = .ok (.aload_n 0, 1) := by decide +kernel
theorem dX11_define_11 : decode cX11_define 11 = .ok (.getfield 59, 3) := by decide +kernel
theorem dX11_define_14 : decode cX11_define 14 = .ok (.ifCond .gt 19, 3) := by decide +kernel
theorem dX11_define_17 : decode cX11_define 17 = .ok (.aload_n 0, 1) := by decide +kernel
theorem dX11_define_18 : decode cX11_define 18 = .ok (.invokevirtual 140, 3) := by decide +kernel
theorem dX11_define_21 : decode cX11_define 21 = .ok (.iconst (-1), 1) := by decide +kernel
theorem dX11_define_22 : decode cX11_define 22 = .ok (.if_icmp .ne 15, 3) := by decide +kernel
theorem dX11_define_25 : decode cX11_define 25 = .ok (.aload_n 0, 1) := by decide +kernel
theorem dX11_define_26 : decode cX11_define 26 = .ok (.invokevirtual 143, 3) := by decide +kernel
theorem dX11_define_29 : decode cX11_define 29 = .ok (.iload_n 1, 1) := by decide +kernel
theorem dX11_define_30 : decode cX11_define 30 = .ok (.if_icmp .gt 7, 3) := by decide +kernel
theorem dX11_define_33 : decode cX11_define 33 = .ok (.iconst 1, 1) := by decide +kernel
theorem dX11_define_34 : decode cX11_define 34 = .ok (.goto 4, 3) := by decide +kernel
theorem dX11_define_37 : decode cX11_define 37 = .ok (.iconst 0, 1) := by decide +kernel
theorem dX11_define_38 : decode cX11_define 38 = .ok (.iconst 2, 1) := by decide +kernel
theorem dX11_define_39 : decode cX11_define 39 = .ok (.invokevirtual 149, 3) := by decide +kernel
theorem dX11_define_42 : decode cX11_define 42 = .ok (.ifCond .ne 5, 3) := by decide +kernel
theorem dX11_define_45 : decode cX11_define 45 = .ok (.iconst 0, 1) := by decide +kernel
theorem dX11_define_46 : decode cX11_define 46 = .ok (.ireturn, 1) := by decide +kernel
theorem dX11_define_47 : decode cX11_define 47 = .ok (.aload_n 0, 1) := by decide +kernel
theorem dX11_define_48 : decode cX11_define 48 = .ok (.invokevirtual 78, 3) := by decide +kernel
theorem dX11_define_51 : decode cX11_define 51 = .ok (.aload_n 0, 1) := by decide +kernel
theorem dX11_define_52 : decode cX11_define 52 = .ok (.iload_n 1, 1) := by decide +kernel
theorem dX11_define_53 : decode cX11_define 53 = .ok (.invokevirtual 153, 3) := by decide +kernel
theorem dX11_define_56 : decode cX11_define 56 = .ok (.ireturn, 1) := by decide +kernel
theorem dX11_takes_0 : decode cX11_takes 0 = .ok (.aload_n 0, 1) := by decide +kernel
theorem dX11_takes_1 : decode cX11_takes 1 = .ok (.aload_n 0, 1) := by decide +kernel
theorem dX11_takes_2 : decode cX11_takes 2 = .ok (.iload_n 1, 1) := by decide +kernel
theorem dX11_takes_3 : decode cX11_takes 3 = .ok (.invokevirtual 156, 3) := by decide +kernel
theorem dX11_takes_6 : decode cX11_takes 6 = .ok (.putfield 84, 3) := by decide +kernel
theorem dX11_takes_9 : decode cX11_takes 9 = .ok (.iconst 0, 1) := by decide +kernel
theorem dX11_takes_10 : decode cX11_takes 10 = .ok (.istore_n 2, 1) := by decide +kernel
theorem dX11_takes_11 : decode cX11_takes 11 = .ok (.iload_n 2, 1) := by decide +kernel
theorem dX11_takes_12 : decode cX11_takes 12 = .ok (.aload_n 0, 1) := by decide +kernel
theorem dX11_takes_13 : decode cX11_takes 13 = .ok (.getfield 84, 3) := by decide +kernel
theorem dX11_takes_16 : decode cX11_takes 16 = .ok (.if_icmp .ge 33, 3) := by decide +kernel
theorem dX11_takes_19 : decode cX11_takes 19 = .ok (.aload_n 0, 1) := by decide +kernel
theorem dX11_takes_20 : decode cX11_takes 20 = .ok (.getfield 23, 3) := by decide +kernel
theorem dX11_takes_23 : decode cX11_takes 23 = .ok (.iload_n 2, 1) := by decide +kernel
theorem dX11_takes_24 : decode cX11_takes 24 = .ok (.aload_n 0, 1) := by decide +kernel
theorem dX11_takes_25 : decode cX11_takes 25 = .ok (.iload_n 1, 1) := by decide +kernel
theorem dX11_takes_26 : decode cX11_takes 26 = .ok (.iload_n 2, 1) := by decide +kernel
theorem dX11_takes_27 : decode cX11_takes 27 = .ok (.invokevirtual 159, 3) := by decide +kernel
theorem dX11_takes_30 : decode cX11_takes 30 = .ok (.iastore, 1) := by decide +kernel
theorem dX11_takes_31 : decode cX11_takes 31 = .ok (.aload_n 0, 1) := by decide +kernel
theorem dX11_takes_32 : decode cX11_takes 32 = .ok (.getfield 26, 3) := by decide +kernel
theorem dX11_takes_35 : decode cX11_takes 35 = .ok (.iload_n 2, 1) := by decide +kernel
theorem dX11_takes_36 : decode cX11_takes 36 = .ok (.aload_n 0, 1) := by decide +kernel
theorem dX11_takes_37 : decode cX11_takes 37 = .ok (.iload_n 1, 1) := by decide +kernel
theorem dX11_takes_38 : decode cX11_takes 38 = .ok (.iload_n 2, 1) := by decide +kernel
theorem dX11_takes_39 : decode cX11_takes 39 = .ok (.invokevirtual 163, 3) := by decide +kernel
theorem dX11_takes_42 : decode cX11_takes 42 = .ok (.iastore, 1) := by decide +kernel
theorem dX11_takes_43 : decode cX11_takes 43 = .ok (.iinc 2 1, 3) := by decide +kernel
theorem dX11_takes_46 : decode cX11_takes 46 = .ok (.goto (-35), 3) := by decide +kernel
theorem dX11_takes_49 : decode cX11_takes 49 = .ok (.return_, 1) := by decide +kernel
theorem dX11_copy_0 : decode cX11_copy 0 = .ok (.aload_n 0, 1) := by decide +kernel
theorem dX11_copy_1 : decode cX11_copy 1 = .ok (.iload_n 1, 1) := by decide +kernel
theorem dX11_copy_2 : decode cX11_copy 2 = .ok (.invokestatic 146, 3) := by decide +kernel
theorem dX11_copy_5 : decode cX11_copy 5 = .ok (.ifCond .eq 14, 3) := by decide +kernel
theorem dX11_copy_8 : decode cX11_copy 8 = .ok (.iload_n 2, 1) := by decide +kernel
theorem dX11_copy_9 : decode cX11_copy 9 = .ok (.invokestatic 146, 3) := by decide +kernel
theorem dX11_copy_12 : decode cX11_copy 12 = .ok (.ifCond .eq 7, 3) := by decide +kernel
theorem dX11_copy_15 : decode cX11_copy 15 = .ok (.iconst 1, 1) := by decide +kernel
theorem dX11_copy_16 : decode cX11_copy 16 = .ok (.goto 4, 3) := by decide +kernel
theorem dX11_copy_19 : decode cX11_copy 19 = .ok (.iconst 0, 1) := by decide +kernel
theorem dX11_copy_20 : decode cX11_copy 20 = .ok (.invokevirtual 66, 3) := by decide +kernel
theorem dX11_copy_23 : decode cX11_copy 23 = .ok (.ifCond .ne 5, 3) := by decide +kernel
theorem dX11_copy_26 : decode cX11_copy 26 = .ok (.iconst 0, 1) := by decide +kernel
theorem dX11_copy_27 : decode cX11_copy 27 = .ok (.ireturn, 1) := by decide +kernel
theorem dX11_copy_28 : decode cX11_copy 28 = .ok (.aload_n 0, 1) := by decide +kernel
theorem dX11_copy_29 : decode cX11_copy 29 = .ok (.iload_n 2, 1) := by decide +kernel
theorem dX11_copy_30 : decode cX11_copy 30 = .ok (.invokevirtual 166, 3) := by decide +kernel
theorem dX11_copy_33 : decode cX11_copy 33 = .ok (.aload_n 0, 1) := by decide +kernel
theorem dX11_copy_34 : decode cX11_copy 34 = .ok (.aload_n 0, 1) := by decide +kernel
theorem dX11_copy_35 : decode cX11_copy 35 = .ok (.invokevirtual 143, 3) := by decide +kernel
theorem dX11_copy_38 : decode cX11_copy 38 = .ok (.iload_n 1, 1) := by decide +kernel
theorem dX11_copy_39 : decode cX11_copy 39 = .ok (.if_icmp .gt 7, 3) := by decide +kernel
theorem dX11_copy_42 : decode cX11_copy 42 = .ok (.iconst 1, 1) := by decide +kernel
theorem dX11_copy_43 : decode cX11_copy 43 = .ok (.goto 4, 3) := by decide +kernel
theorem dX11_copy_46 : decode cX11_copy 46 = .ok (.iconst 0, 1) := by decide +kernel
theorem dX11_copy_47 : decode cX11_copy 47 = .ok (.iconst 2, 1) := by decide +kernel
theorem dX11_copy_48 : decode cX11_copy 48 = .ok (.invokevirtual 149, 3) := by decide +kernel
theorem dX11_copy_51 : decode cX11_copy 51 = .ok (.ifCond .ne 5, 3) := by decide +kernel
theorem dX11_copy_54 : decode cX11_copy 54 = .ok (.iconst 0, 1) := by decide +kernel
theorem dX11_copy_55 : decode cX11_copy 55 = .ok (.ireturn, 1) := by decide +kernel
theorem dX11_copy_56 : decode cX11_copy 56 = .ok (.aload_n 0, 1) := by decide +kernel
theorem dX11_copy_57 : decode cX11_copy 57 = .ok (.invokevirtual 78, 3) := by decide +kernel
theorem dX11_copy_60 : decode cX11_copy 60 = .ok (.aload_n 0, 1) := by decide +kernel
theorem dX11_copy_61 : decode cX11_copy 61 = .ok (.iload_n 1, 1) := by decide +kernel
theorem dX11_copy_62 : decode cX11_copy 62 = .ok (.invokevirtual 153, 3) := by decide +kernel
theorem dX11_copy_65 : decode cX11_copy 65 = .ok (.ireturn, 1) := by decide +kernel
theorem dX11_isPrime_0 : decode cX11_isPrime 0 = .ok (.iload_n 0, 1) := by decide +kernel
theorem dX11_isPrime_1 : decode cX11_isPrime 1 = .ok (.iconst 1, 1) := by decide +kernel
theorem dX11_isPrime_2 : decode cX11_isPrime 2 = .ok (.if_icmp .le 7, 3) := by decide +kernel
theorem dX11_isPrime_5 : decode cX11_isPrime 5 = .ok (.iconst 1, 1) := by decide +kernel
theorem dX11_isPrime_6 : decode cX11_isPrime 6 = .ok (.goto 4, 3) := by decide +kernel
theorem dX11_isPrime_9 : decode cX11_isPrime 9 = .ok (.iconst 0, 1) := by decide +kernel
theorem dX11_isPrime_10 : decode cX11_isPrime 10 = .ok (.istore_n 1, 1) := by decide +kernel
theorem dX11_isPrime_11 : decode cX11_isPrime 11 = .ok (.iconst 2, 1) := by decide +kernel
theorem dX11_isPrime_12 : decode cX11_isPrime 12 = .ok (.istore_n 2, 1) := by decide +kernel
theorem dX11_isPrime_13 : decode cX11_isPrime 13 = .ok (.iload_n 2, 1) := by decide +kernel
theorem dX11_isPrime_14 : decode cX11_isPrime 14 = .ok (.iload_n 0, 1) := by decide +kernel
theorem dX11_isPrime_15 : decode cX11_isPrime 15 = .ok (.if_icmp .ge 25, 3) := by decide +kernel
theorem dX11_isPrime_18 : decode cX11_isPrime 18 = .ok (.iload_n 1, 1) := by decide +kernel
theorem dX11_isPrime_19 : decode cX11_isPrime 19 = .ok (.ifCond .eq 13, 3) := by decide +kernel
theorem dX11_isPrime_22 : decode cX11_isPrime 22 = .ok (.iload_n 0, 1) := by decide +kernel
theorem dX11_isPrime_23 : decode cX11_isPrime 23 = .ok (.iload_n 2, 1) := by decide +kernel
theorem dX11_isPrime_24 : decode cX11_isPrime 24 = .ok (.irem, 1) := by decide +kernel
theorem dX11_isPrime_25 : decode cX11_isPrime 25 = .ok (.ifCond .le 7, 3) := by decide +kernel
theorem dX11_isPrime_28 : decode cX11_isPrime 28 = .ok (.iconst 1, 1) := by decide +kernel
theorem dX11_isPrime_29 : decode cX11_isPrime 29 = .ok (.goto 4, 3) := by decide +kernel
theorem dX11_isPrime_32 : decode cX11_isPrime 32 = .ok (.iconst 0, 1) := by decide +kernel
theorem dX11_isPrime_33 : decode cX11_isPrime 33 = .ok (.istore_n 1, 1) := by decide +kernel
theorem dX11_isPrime_34 : decode cX11_isPrime 34 = .ok (.iinc 2 1, 3) := by decide +kernel
theorem dX11_isPrime_37 : decode cX11_isPrime 37 = .ok (.goto (-24), 3) := by decide +kernel
theorem dX11_isPrime_40 : decode cX11_isPrime 40 = .ok (.iload_n 1, 1) := by decide +kernel
theorem dX11_isPrime_41 : decode cX11_isPrime 41 = .ok (.ireturn, 1) := by decide +kernel
theorem dX11_setModulus_0 : decode cX11_setModulus 0 = .ok (.aload_n 0, 1) := by decide +kernel
theorem dX11_setModulus_1 : decode cX11_setModulus 1 = .ok (.iload_n 1, 1) := by decide +kernel
theorem dX11_setModulus_2 : decode cX11_setModulus 2 = .ok (.iconst 2, 1) := by decide +kernel
theorem dX11_setModulus_3 : decode cX11_setModulus 3 = .ok (.sipush 199, 3) := by decide +kernel
theorem dX11_setModulus_6 : decode cX11_setModulus 6 = .ok (.invokestatic 101, 3) := by decide +kernel
theorem dX11_setModulus_9 : decode cX11_setModulus 9 = .ok (.ifCond .eq 14, 3) := by decide +kernel
theorem dX11_setModulus_12 : decode cX11_setModulus 12 = .ok (.iload_n 1, 1) := by decide +kernel
theorem dX11_setModulus_13 : decode cX11_setModulus 13 = .ok (.invokestatic 170, 3) := by decide +kernel
theorem dX11_setModulus_16 : decode cX11_setModulus 16 = .ok (.ifCond .eq 7, 3) := by decide +kernel
theorem dX11_setModulus_19 : decode cX11_setModulus 19 = .ok (.iconst 1, 1) := by decide +kernel
theorem dX11_setModulus_20 : decode cX11_setModulus 20 = .ok (.goto 4, 3) := by decide +kernel
theorem dX11_setModulus_23 : decode cX11_setModulus 23 = .ok (.iconst 0, 1) := by decide +kernel
theorem dX11_setModulus_24 : decode cX11_setModulus 24 = .ok (.invokevirtual 66, 3) := by decide +kernel
theorem dX11_setModulus_27 : decode cX11_setModulus 27 = .ok (.ifCond .ne 5, 3) := by decide +kernel
theorem dX11_setModulus_30 : decode cX11_setModulus 30 = .ok (.iconst 0, 1) := by decide +kernel
theorem dX11_setModulus_31 : decode cX11_setModulus 31 = .ok (.ireturn, 1) := by decide +kernel
theorem dX11_setModulus_32 : decode cX11_setModulus 32 = .ok (.aload_n 0, 1) := by decide +kernel
theorem dX11_setModulus_33 : decode cX11_setModulus 33 = .ok (.invokevirtual 78, 3) := by decide +kernel
theorem dX11_setModulus_36 : decode cX11_setModulus 36 = .ok (.aload_n 0, 1) := by decide +kernel
theorem dX11_setModulus_37 : decode cX11_setModulus 37 = .ok (.getfield 7, 3) := by decide +kernel
theorem dX11_setModulus_40 : decode cX11_setModulus 40 = .ok (.iconst 0, 1) := by decide +kernel
theorem dX11_setModulus_41 : decode cX11_setModulus 41 = .ok (.iaload, 1) := by decide +kernel
theorem dX11_setModulus_42 : decode cX11_setModulus 42 = .ok (.istore_n 2, 1) := by decide +kernel
theorem dX11_setModulus_43 : decode cX11_setModulus 43 = .ok (.aload_n 0, 1) := by decide +kernel
theorem dX11_setModulus_44 : decode cX11_setModulus 44 = .ok (.getfield 7, 3) := by decide +kernel
theorem dX11_setModulus_47 : decode cX11_setModulus 47 = .ok (.iconst 0, 1) := by decide +kernel
theorem dX11_setModulus_48 : decode cX11_setModulus 48 = .ok (.iload_n 1, 1) := by decide +kernel
theorem dX11_setModulus_49 : decode cX11_setModulus 49 = .ok (.iastore, 1) := by decide +kernel
theorem dX11_setModulus_50 : decode cX11_setModulus 50 = .ok (.iload_n 2, 1) := by decide +kernel
theorem dX11_setModulus_51 : decode cX11_setModulus 51 = .ok (.ireturn, 1) := by decide +kernel
theorem dX11_links_0 : decode cX11_links 0 = .ok (.iconst 0, 1) := by decide +kernel
theorem dX11_links_1 : decode cX11_links 1 = .ok (.istore_n 2, 1) := by decide +kernel
theorem dX11_links_2 : decode cX11_links 2 = .ok (.iconst 0, 1) := by decide +kernel
theorem dX11_links_3 : decode cX11_links 3 = .ok (.istore_n 3, 1) := by decide +kernel
theorem dX11_links_4 : decode cX11_links 4 = .ok (.iload_n 3, 1) := by decide +kernel
theorem dX11_links_5 : decode cX11_links 5 = .ok (.aload_n 0, 1) := by decide +kernel
theorem dX11_links_6 : decode cX11_links 6 = .ok (.iload_n 1, 1) := by decide +kernel
theorem dX11_links_7 : decode cX11_links 7 = .ok (.invokevirtual 156, 3) := by decide +kernel
theorem dX11_links_10 : decode cX11_links 10 = .ok (.if_icmp .ge 158, 3) := by decide +kernel
theorem dX11_links_13 : decode cX11_links 13 = .ok (.aload_n 0, 1) := by decide +kernel
theorem dX11_links_14 : decode cX11_links 14 = .ok (.iload_n 1, 1) := by decide +kernel
theorem dX11_links_15 : decode cX11_links 15 = .ok (.iload_n 3, 1) := by decide +kernel
theorem dX11_links_16 : decode cX11_links 16 = .ok (.invokevirtual 159, 3) := by decide +kernel
theorem dX11_links_19 : decode cX11_links 19 = .ok (.istore 4, 2) := by decide +kernel
theorem dX11_links_21 : decode cX11_links 21 = .ok (.iload 4, 2) := by decide +kernel
theorem dX11_links_23 : decode cX11_links 23 = .ok (.iconst 3, 1) := by decide +kernel
theorem dX11_links_24 : decode cX11_links 24 = .ok (.if_icmp .lt 14, 3) := by decide +kernel
theorem dX11_links_27 : decode cX11_links 27 = .ok (.iload 4, 2) := by decide +kernel
theorem dX11_links_29 : decode cX11_links 29 = .ok (.bipush 6, 2) := by decide +kernel
theorem dX11_links_31 : decode cX11_links 31 = .ok (.if_icmp .gt 7, 3) := by decide +kernel
theorem dX11_links_34 : decode cX11_links 34 = .ok (.iconst 1, 1) := by decide +kernel
theorem dX11_links_35 : decode cX11_links 35 = .ok (.goto 4, 3) := by decide +kernel
theorem dX11_links_38 : decode cX11_links 38 = .ok (.iconst 0, 1) := by decide +kernel
theorem dX11_links_39 : decode cX11_links 39 = .ok (.istore 5, 2) := by decide +kernel
theorem dX11_links_41 : decode cX11_links 41 = .ok (.iload 4, 2) := by decide +kernel
theorem dX11_links_43 : decode cX11_links 43 = .ok (.iconst 2, 1) := by decide +kernel
theorem dX11_links_44 : decode cX11_links 44 = .ok (.if_icmp .eq 17, 3) := by decide +kernel
theorem dX11_links_47 : decode cX11_links 47 = .ok (.iload 4, 2) := by decide +kernel
theorem dX11_links_49 : decode cX11_links 49 = .ok (.bipush 7, 2) := by decide +kernel
theorem dX11_links_51 : decode cX11_links 51 = .ok (.if_icmp .eq 10, 3) := by decide +kernel
theorem dX11_links_54 : decode cX11_links 54 = .ok (.iload 4, 2) := by decide +kernel
theorem dX11_links_56 : decode cX11_links 56 = .ok (.bipush 8, 2) := by decide +kernel
theorem dX11_links_58 : decode cX11_links 58 = .ok (.if_icmp .ne 7, 3) := by decide +kernel
theorem dX11_links_61 : decode cX11_links 61 = .ok (.iconst 1, 1) := by decide +kernel
theorem dX11_links_62 : decode cX11_links 62 = .ok (.goto 4, 3) := by decide +kernel
theorem dX11_links_65 : decode cX11_links 65 = .ok (.iconst 0, 1) := by decide +kernel
theorem dX11_links_66 : decode cX11_links 66 = .ok (.istore 6, 2) := by decide +kernel
theorem dX11_links_68 : decode cX11_links 68 = .ok (.aload_n 0, 1) := by decide +kernel
theorem dX11_links_69 : decode cX11_links 69 = .ok (.getfield 50, 3) := by decide +kernel
theorem dX11_links_72 : decode cX11_links 72 = .ok (.iload_n 3, 1) := by decide +kernel
theorem dX11_links_73 : decode cX11_links 73 = .ok (.iload 5, 2) := by decide +kernel
theorem dX11_links_75 : decode cX11_links 75 = .ok (.ifCond .eq 14, 3) := by decide +kernel
theorem dX11_links_78 : decode cX11_links 78 = .ok (.aload_n 0, 1) := by decide +kernel
theorem dX11_links_79 : decode cX11_links 79 = .ok (.getfield 56, 3) := by decide +kernel
theorem dX11_links_82 : decode cX11_links 82 = .ok (.iload_n 2, 1) := by decide +kernel
theorem dX11_links_83 : decode cX11_links 83 = .ok (.iconst 1, 1) := by decide +kernel
theorem dX11_links_84 : decode cX11_links 84 = .ok (.isub, 1) := by decide +kernel
theorem dX11_links_85 : decode cX11_links 85 = .ok (.iaload, 1) := by decide +kernel
theorem dX11_links_86 : decode cX11_links 86 = .ok (.goto 4, 3) := by decide +kernel
theorem dX11_links_89 : decode cX11_links 89 = .ok (.iconst (-1), 1) := by decide +kernel
theorem dX11_links_90 : decode cX11_links 90 = .ok (.iastore, 1) := by decide +kernel
theorem dX11_links_91 : decode cX11_links 91 = .ok (.aload_n 0, 1) := by decide +kernel
theorem dX11_links_92 : decode cX11_links 92 = .ok (.getfield 47, 3) := by decide +kernel
theorem dX11_links_95 : decode cX11_links 95 = .ok (.iload_n 3, 1) := by decide +kernel
theorem dX11_links_96 : decode cX11_links 96 = .ok (.iload 5, 2) := by decide +kernel
theorem dX11_links_98 : decode cX11_links 98 = .ok (.ifCond .eq 14, 3) := by decide +kernel
theorem dX11_links_101 : decode cX11_links 101 = .ok (.aload_n 0, 1) := by decide +kernel
theorem dX11_links_102 : decode cX11_links 102 = .ok (.getfield 56, 3) := by decide +kernel
theorem dX11_links_105 : decode cX11_links 105 = .ok (.iload_n 2, 1) := by decide +kernel
theorem dX11_links_106 : decode cX11_links 106 = .ok (.iconst 2, 1) := by decide +kernel
theorem dX11_links_107 : decode cX11_links 107 = .ok (.isub, 1) := by decide +kernel
theorem dX11_links_108 : decode cX11_links 108 = .ok (.iaload, 1) := by decide +kernel
theorem dX11_links_109 : decode cX11_links 109 = .ok (.goto 20, 3) := by decide +kernel
theorem dX11_links_112 : decode cX11_links 112 = .ok (.iload 6, 2) := by decide +kernel
theorem dX11_links_114 : decode cX11_links 114 = .ok (.ifCond .eq 14, 3) := by decide +kernel
theorem dX11_links_117 : decode cX11_links 117 = .ok (.aload_n 0, 1) := by decide +kernel
theorem dX11_links_118 : decode cX11_links 118 = .ok (.getfield 56, 3) := by decide +kernel
theorem dX11_links_121 : decode cX11_links 121 = .ok (.iload_n 2, 1) := by decide +kernel
theorem dX11_links_122 : decode cX11_links 122 = .ok (.iconst 1, 1) := by decide +kernel
theorem dX11_links_123 : decode cX11_links 123 = .ok (.isub, 1) := by decide +kernel
theorem dX11_links_124 : decode cX11_links 124 = .ok (.iaload, 1) := by decide +kernel
theorem dX11_links_125 : decode cX11_links 125 = .ok (.goto 4, 3) := by decide +kernel
theorem dX11_links_128 : decode cX11_links 128 = .ok (.iconst (-1), 1) := by decide +kernel
theorem dX11_links_129 : decode cX11_links 129 = .ok (.iastore, 1) := by decide +kernel
theorem dX11_links_130 : decode cX11_links 130 = .ok (.iload_n 2, 1) := by decide +kernel
theorem dX11_links_131 : decode cX11_links 131 = .ok (.iload 5, 2) := by decide +kernel
theorem dX11_links_133 : decode cX11_links 133 = .ok (.ifCond .eq 7, 3) := by decide +kernel
theorem dX11_links_136 : decode cX11_links 136 = .ok (.iconst 2, 1) := by decide +kernel
theorem dX11_links_137 : decode cX11_links 137 = .ok (.goto 13, 3) := by decide +kernel
theorem dX11_links_140 : decode cX11_links 140 = .ok (.iload 6, 2) := by decide +kernel
theorem dX11_links_142 : decode cX11_links 142 = .ok (.ifCond .eq 7, 3) := by decide +kernel
theorem dX11_links_145 : decode cX11_links 145 = .ok (.iconst 1, 1) := by decide +kernel
theorem dX11_links_146 : decode cX11_links 146 = .ok (.goto 4, 3) := by decide +kernel
theorem dX11_links_149 : decode cX11_links 149 = .ok (.iconst 0, 1) := by decide +kernel
theorem dX11_links_150 : decode cX11_links 150 = .ok (.isub, 1) := by decide +kernel
theorem dX11_links_151 : decode cX11_links 151 = .ok (.istore_n 2, 1) := by decide +kernel
theorem dX11_links_152 : decode cX11_links 152 = .ok (.aload_n 0, 1) := by decide +kernel
theorem dX11_links_153 : decode cX11_links 153 = .ok (.getfield 56, 3) := by decide +kernel
theorem dX11_links_156 : decode cX11_links 156 = .ok (.iload_n 2, 1) := by decide +kernel
theorem dX11_links_157 : decode cX11_links 157 = .ok (.iload_n 3, 1) := by decide +kernel
theorem dX11_links_158 : decode cX11_links 158 = .ok (.iastore, 1) := by decide +kernel
theorem dX11_links_159 : decode cX11_links 159 = .ok (.iinc 2 1, 3) := by decide +kernel
theorem dX11_links_162 : decode cX11_links 162 = .ok (.iinc 3 1, 3) := by decide +kernel
theorem dX11_links_165 : decode cX11_links 165 = .ok (.goto (-161), 3) := by decide +kernel
theorem dX11_links_168 : decode cX11_links 168 = .ok (.return_, 1) := by decide +kernel
theorem dX11_nodesOf_0 : decode cX11_nodesOf 0 = .ok (.aload_n 0, 1) := by decide +kernel
theorem dX11_nodesOf_1 : decode cX11_nodesOf 1 = .ok (.iload_n 1, 1) := by decide +kernel
theorem dX11_nodesOf_2 : decode cX11_nodesOf 2 = .ok (.invokestatic 146, 3) := by decide +kernel
theorem dX11_nodesOf_5 : decode cX11_nodesOf 5 = .ok (.invokevirtual 66, 3) := by decide +kernel
theorem dX11_nodesOf_8 : decode cX11_nodesOf 8 = .ok (.ifCond .eq 11, 3) := by decide +kernel
theorem dX11_nodesOf_11 : decode cX11_nodesOf 11 = .ok (.aload_n 0, 1) := by decide +kernel
theorem dX11_nodesOf_12 : decode cX11_nodesOf 12 = .ok (.iload_n 1, 1) := by decide +kernel
theorem dX11_nodesOf_13 : decode cX11_nodesOf 13 = .ok (.invokevirtual 156, 3) := by decide +kernel
theorem dX11_nodesOf_16 : decode cX11_nodesOf 16 = .ok (.goto 4, 3) := by decide +kernel
theorem dX11_nodesOf_19 : decode cX11_nodesOf 19 = .ok (.iconst 0, 1) := by decide +kernel
theorem dX11_nodesOf_20 : decode cX11_nodesOf 20 = .ok (.ireturn, 1) := by decide +kernel
theorem dX11_unlike_0 : decode cX11_unlike 0 = .ok (.aload_n 0, 1) := by decide +kernel
theorem dX11_unlike_1 : decode cX11_unlike 1 = .ok (.iload_n 1, 1) := by decide +kernel
theorem dX11_unlike_2 : decode cX11_unlike 2 = .ok (.invokevirtual 173, 3) := by decide +kernel
theorem dX11_unlike_5 : decode cX11_unlike 5 = .ok (.iconst 0, 1) := by decide +kernel
theorem dX11_unlike_6 : decode cX11_unlike 6 = .ok (.istore_n 2, 1) := by decide +kernel
theorem dX11_unlike_7 : decode cX11_unlike 7 = .ok (.iconst 0, 1) := by decide +kernel
theorem dX11_unlike_8 : decode cX11_unlike 8 = .ok (.istore_n 3, 1) := by decide +kernel
theorem dX11_unlike_9 : decode cX11_unlike 9 = .ok (.iload_n 3, 1) := by decide +kernel
theorem dX11_unlike_10 : decode cX11_unlike 10 = .ok (.aload_n 0, 1) := by decide +kernel
theorem dX11_unlike_11 : decode cX11_unlike 11 = .ok (.iload_n 1, 1) := by decide +kernel
theorem dX11_unlike_12 : decode cX11_unlike 12 = .ok (.invokevirtual 156, 3) := by decide +kernel
theorem dX11_unlike_15 : decode cX11_unlike 15 = .ok (.if_icmp .ge 207, 3) := by decide +kernel
theorem dX11_unlike_18 : decode cX11_unlike 18 = .ok (.aload_n 0, 1) := by decide +kernel
theorem dX11_unlike_19 : decode cX11_unlike 19 = .ok (.getfield 53, 3) := by decide +kernel
theorem dX11_unlike_22 : decode cX11_unlike 22 = .ok (.iload_n 3, 1) := by decide +kernel
theorem dX11_unlike_23 : decode cX11_unlike 23 = .ok (.iload_n 3, 1) := by decide +kernel
theorem dX11_unlike_24 : decode cX11_unlike 24 = .ok (.iastore, 1) := by decide +kernel
theorem dX11_unlike_25 : decode cX11_unlike 25 = .ok (.iload_n 3, 1) := by decide +kernel
theorem dX11_unlike_26 : decode cX11_unlike 26 = .ok (.iconst 1, 1) := by decide +kernel
theorem dX11_unlike_27 : decode cX11_unlike 27 = .ok (.isub, 1) := by decide +kernel
theorem dX11_unlike_28 : decode cX11_unlike 28 = .ok (.istore 4, 2) := by decide +kernel
theorem dX11_unlike_30 : decode cX11_unlike 30 = .ok (.iload 4, 2) := by decide +kernel
theorem dX11_unlike_32 : decode cX11_unlike 32 = .ok (.ifCond .lt 166, 3) := by decide +kernel
theorem dX11_unlike_35 : decode cX11_unlike 35 = .ok (.aload_n 0, 1) := by decide +kernel
theorem dX11_unlike_36 : decode cX11_unlike 36 = .ok (.iload_n 1, 1) := by decide +kernel
theorem dX11_unlike_37 : decode cX11_unlike 37 = .ok (.iload 4, 2) := by decide +kernel
theorem dX11_unlike_39 : decode cX11_unlike 39 = .ok (.invokevirtual 159, 3) := by decide +kernel
theorem dX11_unlike_42 : decode cX11_unlike 42 = .ok (.aload_n 0, 1) := by decide +kernel
theorem dX11_unlike_43 : decode cX11_unlike 43 = .ok (.iload_n 1, 1) := by decide +kernel
theorem dX11_unlike_44 : decode cX11_unlike 44 = .ok (.iload_n 3, 1) := by decide +kernel
theorem dX11_unlike_45 : decode cX11_unlike 45 = .ok (.invokevirtual 159, 3) := by decide +kernel
theorem dX11_unlike_48 : decode cX11_unlike 48 = .ok (.if_icmp .ne 23, 3) := by decide +kernel
theorem dX11_unlike_51 : decode cX11_unlike 51 = .ok (.aload_n 0, 1) := by decide +kernel
theorem dX11_unlike_52 : decode cX11_unlike 52 = .ok (.iload_n 1, 1) := by decide +kernel
theorem dX11_unlike_53 : decode cX11_unlike 53 = .ok (.iload 4, 2) := by decide +kernel
theorem dX11_unlike_55 : decode cX11_unlike 55 = .ok (.invokevirtual 163, 3) := by decide +kernel
theorem dX11_unlike_58 : decode cX11_unlike 58 = .ok (.aload_n 0, 1) := by decide +kernel
theorem dX11_unlike_59 : decode cX11_unlike 59 = .ok (.iload_n 1, 1) := by decide +kernel
theorem dX11_unlike_60 : decode cX11_unlike 60 = .ok (.iload_n 3, 1) := by decide +kernel
theorem dX11_unlike_61 : decode cX11_unlike 61 = .ok (.invokevirtual 163, 3) := by decide +kernel
theorem dX11_unlike_64 : decode cX11_unlike 64 = .ok (.if_icmp .ne 7, 3) := by decide +kernel
theorem dX11_unlike_67 : decode cX11_unlike 67 = .ok (.iconst 1, 1) := by decide +kernel
theorem dX11_unlike_68 : decode cX11_unlike 68 = .ok (.goto 4, 3) := by decide +kernel
theorem dX11_unlike_71 : decode cX11_unlike 71 = .ok (.iconst 0, 1) := by decide +kernel
theorem dX11_unlike_72 : decode cX11_unlike 72 = .ok (.istore 5, 2) := by decide +kernel
theorem dX11_unlike_74 : decode cX11_unlike 74 = .ok (.iload 5, 2) := by decide +kernel
theorem dX11_unlike_76 : decode cX11_unlike 76 = .ok (.ifCond .eq 43, 3) := by decide +kernel
theorem dX11_unlike_79 : decode cX11_unlike 79 = .ok (.aload_n 0, 1) := by decide +kernel
theorem dX11_unlike_80 : decode cX11_unlike 80 = .ok (.getfield 47, 3) := by decide +kernel
theorem dX11_unlike_83 : decode cX11_unlike 83 = .ok (.iload_n 3, 1) := by decide +kernel
theorem dX11_unlike_84 : decode cX11_unlike 84 = .ok (.iaload, 1) := by decide +kernel
theorem dX11_unlike_85 : decode cX11_unlike 85 = .ok (.iconst (-1), 1) := by decide +kernel
theorem dX11_unlike_86 : decode cX11_unlike 86 = .ok (.if_icmp .eq 29, 3) := by decide +kernel
theorem dX11_unlike_89 : decode cX11_unlike 89 = .ok (.aload_n 0, 1) := by decide +kernel
theorem dX11_unlike_90 : decode cX11_unlike 90 = .ok (.getfield 53, 3) := by decide +kernel
theorem dX11_unlike_93 : decode cX11_unlike 93 = .ok (.aload_n 0, 1) := by decide +kernel
theorem dX11_unlike_94 : decode cX11_unlike 94 = .ok (.getfield 47, 3) := by decide +kernel
theorem dX11_unlike_97 : decode cX11_unlike 97 = .ok (.iload_n 3, 1) := by decide +kernel
theorem dX11_unlike_98 : decode cX11_unlike 98 = .ok (.iaload, 1) := by decide +kernel
theorem dX11_unlike_99 : decode cX11_unlike 99 = .ok (.iaload, 1) := by decide +kernel
theorem dX11_unlike_100 : decode cX11_unlike 100 = .ok (.aload_n 0, 1) := by decide +kernel
theorem dX11_unlike_101 : decode cX11_unlike 101 = .ok (.getfield 53, 3) := by decide +kernel
theorem dX11_unlike_104 : decode cX11_unlike 104 = .ok (.aload_n 0, 1) := by decide +kernel
theorem dX11_unlike_105 : decode cX11_unlike 105 = .ok (.getfield 47, 3) := by decide +kernel
theorem dX11_unlike_108 : decode cX11_unlike 108 = .ok (.iload 4, 2) := by decide +kernel
theorem dX11_unlike_110 : decode cX11_unlike 110 = .ok (.iaload, 1) := by decide +kernel
theorem dX11_unlike_111 : decode cX11_unlike 111 = .ok (.iaload, 1) := by decide +kernel
theorem dX11_unlike_112 : decode cX11_unlike 112 = .ok (.if_icmp .ne 7, 3) := by decide +kernel
theorem dX11_unlike_115 : decode cX11_unlike 115 = .ok (.iconst 1, 1) := by decide +kernel
theorem dX11_unlike_116 : decode cX11_unlike 116 = .ok (.goto 4, 3) := by decide +kernel
theorem dX11_unlike_119 : decode cX11_unlike 119 = .ok (.iconst 0, 1) := by decide +kernel
theorem dX11_unlike_120 : decode cX11_unlike 120 = .ok (.istore 5, 2) := by decide +kernel
theorem dX11_unlike_122 : decode cX11_unlike 122 = .ok (.iload 5, 2) := by decide +kernel
theorem dX11_unlike_124 : decode cX11_unlike 124 = .ok (.ifCond .eq 43, 3) := by decide +kernel
theorem dX11_unlike_127 : decode cX11_unlike 127 = .ok (.aload_n 0, 1) := by decide +kernel
theorem dX11_unlike_128 : decode cX11_unlike 128 = .ok (.getfield 50, 3) := by decide +kernel
theorem dX11_unlike_131 : decode cX11_unlike 131 = .ok (.iload_n 3, 1) := by decide +kernel
theorem dX11_unlike_132 : decode cX11_unlike 132 = .ok (.iaload, 1) := by decide +kernel
theorem dX11_unlike_133 : decode cX11_unlike 133 = .ok (.iconst (-1), 1) := by decide +kernel
theorem dX11_unlike_134 : decode cX11_unlike 134 = .ok (.if_icmp .eq 29, 3) := by decide +kernel
theorem dX11_unlike_137 : decode cX11_unlike 137 = .ok (.aload_n 0, 1) := by decide +kernel
theorem dX11_unlike_138 : decode cX11_unlike 138 = .ok (.getfield 53, 3) := by decide +kernel
theorem dX11_unlike_141 : decode cX11_unlike 141 = .ok (.aload_n 0, 1) := by decide +kernel
theorem dX11_unlike_142 : decode cX11_unlike 142 = .ok (.getfield 50, 3) := by decide +kernel
theorem dX11_unlike_145 : decode cX11_unlike 145 = .ok (.iload_n 3, 1) := by decide +kernel
theorem dX11_unlike_146 : decode cX11_unlike 146 = .ok (.iaload, 1) := by decide +kernel
theorem dX11_unlike_147 : decode cX11_unlike 147 = .ok (.iaload, 1) := by decide +kernel
theorem dX11_unlike_148 : decode cX11_unlike 148 = .ok (.aload_n 0, 1) := by decide +kernel
theorem dX11_unlike_149 : decode cX11_unlike 149 = .ok (.getfield 53, 3) := by decide +kernel
theorem dX11_unlike_152 : decode cX11_unlike 152 = .ok (.aload_n 0, 1) := by decide +kernel
theorem dX11_unlike_153 : decode cX11_unlike 153 = .ok (.getfield 50, 3) := by decide +kernel
theorem dX11_unlike_156 : decode cX11_unlike 156 = .ok (.iload 4, 2) := by decide +kernel
theorem dX11_unlike_158 : decode cX11_unlike 158 = .ok (.iaload, 1) := by decide +kernel
theorem dX11_unlike_159 : decode cX11_unlike 159 = .ok (.iaload, 1) := by decide +kernel
theorem dX11_unlike_160 : decode cX11_unlike 160 = .ok (.if_icmp .ne 7, 3) := by decide +kernel
theorem dX11_unlike_163 : decode cX11_unlike 163 = .ok (.iconst 1, 1) := by decide +kernel
theorem dX11_unlike_164 : decode cX11_unlike 164 = .ok (.goto 4, 3) := by decide +kernel
theorem dX11_unlike_167 : decode cX11_unlike 167 = .ok (.iconst 0, 1) := by decide +kernel
theorem dX11_unlike_168 : decode cX11_unlike 168 = .ok (.istore 5, 2) := by decide +kernel
theorem dX11_unlike_170 : decode cX11_unlike 170 = .ok (.aload_n 0, 1) := by decide +kernel
theorem dX11_unlike_171 : decode cX11_unlike 171 = .ok (.getfield 53, 3) := by decide +kernel
theorem dX11_unlike_174 : decode cX11_unlike 174 = .ok (.iload_n 3, 1) := by decide +kernel
theorem dX11_unlike_175 : decode cX11_unlike 175 = .ok (.iload 5, 2) := by decide +kernel
theorem dX11_unlike_177 : decode cX11_unlike 177 = .ok (.ifCond .eq 8, 3) := by decide +kernel
theorem dX11_unlike_180 : decode cX11_unlike 180 = .ok (.iload 4, 2) := by decide +kernel
theorem dX11_unlike_182 : decode cX11_unlike 182 = .ok (.goto 9, 3) := by decide +kernel
theorem dX11_unlike_185 : decode cX11_unlike 185 = .ok (.aload_n 0, 1) := by decide +kernel
theorem dX11_unlike_186 : decode cX11_unlike 186 = .ok (.getfield 53, 3) := by decide +kernel
theorem dX11_unlike_189 : decode cX11_unlike 189 = .ok (.iload_n 3, 1) := by decide +kernel
theorem dX11_unlike_190 : decode cX11_unlike 190 = .ok (.iaload, 1) := by decide +kernel
theorem dX11_unlike_191 : decode cX11_unlike 191 = .ok (.iastore, 1) := by decide +kernel
theorem dX11_unlike_192 : decode cX11_unlike 192 = .ok (.iinc 4 (-1), 3) := by decide +kernel
theorem dX11_unlike_195 : decode cX11_unlike 195 = .ok (.goto (-165), 3) := by decide +kernel
theorem dX11_unlike_198 : decode cX11_unlike 198 = .ok (.iload_n 2, 1) := by decide +kernel
theorem dX11_unlike_199 : decode cX11_unlike 199 = .ok (.aload_n 0, 1) := by decide +kernel
theorem dX11_unlike_200 : decode cX11_unlike 200 = .ok (.getfield 53, 3) := by decide +kernel
theorem dX11_unlike_203 : decode cX11_unlike 203 = .ok (.iload_n 3, 1) := by decide +kernel
theorem dX11_unlike_204 : decode cX11_unlike 204 = .ok (.iaload, 1) := by decide +kernel
theorem dX11_unlike_205 : decode cX11_unlike 205 = .ok (.iload_n 3, 1) := by decide +kernel
theorem dX11_unlike_206 : decode cX11_unlike 206 = .ok (.if_icmp .ne 7, 3) := by decide +kernel
theorem dX11_unlike_209 : decode cX11_unlike 209 = .ok (.iconst 1, 1) := by decide +kernel
theorem dX11_unlike_210 : decode cX11_unlike 210 = .ok (.goto 4, 3) := by decide +kernel
theorem dX11_unlike_213 : decode cX11_unlike 213 = .ok (.iconst 0, 1) := by decide +kernel
theorem dX11_unlike_214 : decode cX11_unlike 214 = .ok (.iadd, 1) := by decide +kernel
theorem dX11_unlike_215 : decode cX11_unlike 215 = .ok (.istore_n 2, 1) := by decide +kernel
theorem dX11_unlike_216 : decode cX11_unlike 216 = .ok (.iinc 3 1, 3) := by decide +kernel
theorem dX11_unlike_219 : decode cX11_unlike 219 = .ok (.goto (-210), 3) := by decide +kernel
theorem dX11_unlike_222 : decode cX11_unlike 222 = .ok (.iload_n 2, 1) := by decide +kernel
theorem dX11_unlike_223 : decode cX11_unlike 223 = .ok (.ireturn, 1) := by decide +kernel
theorem dX11_unlikeNodesOf_0 : decode cX11_unlikeNodesOf 0 = .ok (.aload_n 0, 1) := by decide +kernel
theorem dX11_unlikeNodesOf_1 : decode cX11_unlikeNodesOf 1 = .ok (.iload_n 1, 1) := by decide +kernel
theorem dX11_unlikeNodesOf_2 : decode cX11_unlikeNodesOf 2 = .ok (.invokestatic 146, 3) := by decide +kernel
theorem dX11_unlikeNodesOf_5 : decode cX11_unlikeNodesOf 5 = .ok (.invokevirtual 66, 3) := by decide +kernel
theorem dX11_unlikeNodesOf_8 : decode cX11_unlikeNodesOf 8 = .ok (.ifCond .eq 11, 3) := by decide +kernel
theorem dX11_unlikeNodesOf_11 : decode cX11_unlikeNodesOf 11 = .ok (.aload_n 0, 1) := by decide +kernel
theorem dX11_unlikeNodesOf_12 : decode cX11_unlikeNodesOf 12 = .ok (.iload_n 1, 1) := by decide +kernel
theorem dX11_unlikeNodesOf_13 : decode cX11_unlikeNodesOf 13 = .ok (.invokevirtual 176, 3) := by decide +kernel
theorem dX11_unlikeNodesOf_16 : decode cX11_unlikeNodesOf 16 = .ok (.goto 4, 3) := by decide +kernel
theorem dX11_unlikeNodesOf_19 : decode cX11_unlikeNodesOf 19 = .ok (.iconst 0, 1) := by decide +kernel
theorem dX11_unlikeNodesOf_20 : decode cX11_unlikeNodesOf 20 = .ok (.ireturn, 1) := by decide +kernel
theorem dX11_deep_0 : decode cX11_deep 0 = .ok (.aload_n 0, 1) := by decide +kernel
theorem dX11_deep_1 : decode cX11_deep 1 = .ok (.iload_n 1, 1) := by decide +kernel
theorem dX11_deep_2 : decode cX11_deep 2 = .ok (.invokevirtual 173, 3) := by decide +kernel
theorem dX11_deep_5 : decode cX11_deep 5 = .ok (.iconst 0, 1) := by decide +kernel
theorem dX11_deep_6 : decode cX11_deep 6 = .ok (.istore_n 2, 1) := by decide +kernel
theorem dX11_deep_7 : decode cX11_deep 7 = .ok (.iconst 0, 1) := by decide +kernel
theorem dX11_deep_8 : decode cX11_deep 8 = .ok (.istore_n 3, 1) := by decide +kernel
theorem dX11_deep_9 : decode cX11_deep 9 = .ok (.iload_n 3, 1) := by decide +kernel
theorem dX11_deep_10 : decode cX11_deep 10 = .ok (.aload_n 0, 1) := by decide +kernel
theorem dX11_deep_11 : decode cX11_deep 11 = .ok (.iload_n 1, 1) := by decide +kernel
theorem dX11_deep_12 : decode cX11_deep 12 = .ok (.invokevirtual 156, 3) := by decide +kernel
theorem dX11_deep_15 : decode cX11_deep 15 = .ok (.if_icmp .ge 106, 3) := by decide +kernel
theorem dX11_deep_18 : decode cX11_deep 18 = .ok (.aload_n 0, 1) := by decide +kernel
theorem dX11_deep_19 : decode cX11_deep 19 = .ok (.getfield 47, 3) := by decide +kernel
theorem dX11_deep_22 : decode cX11_deep 22 = .ok (.iload_n 3, 1) := by decide +kernel
theorem dX11_deep_23 : decode cX11_deep 23 = .ok (.iaload, 1) := by decide +kernel
theorem dX11_deep_24 : decode cX11_deep 24 = .ok (.iconst (-1), 1) := by decide +kernel
theorem dX11_deep_25 : decode cX11_deep 25 = .ok (.if_icmp .ne 7, 3) := by decide +kernel
theorem dX11_deep_28 : decode cX11_deep 28 = .ok (.iconst 0, 1) := by decide +kernel
theorem dX11_deep_29 : decode cX11_deep 29 = .ok (.goto 14, 3) := by decide +kernel
theorem dX11_deep_32 : decode cX11_deep 32 = .ok (.aload_n 0, 1) := by decide +kernel
theorem dX11_deep_33 : decode cX11_deep 33 = .ok (.getfield 53, 3) := by decide +kernel
theorem dX11_deep_36 : decode cX11_deep 36 = .ok (.aload_n 0, 1) := by decide +kernel
theorem dX11_deep_37 : decode cX11_deep 37 = .ok (.getfield 47, 3) := by decide +kernel
theorem dX11_deep_40 : decode cX11_deep 40 = .ok (.iload_n 3, 1) := by decide +kernel
theorem dX11_deep_41 : decode cX11_deep 41 = .ok (.iaload, 1) := by decide +kernel
theorem dX11_deep_42 : decode cX11_deep 42 = .ok (.iaload, 1) := by decide +kernel
theorem dX11_deep_43 : decode cX11_deep 43 = .ok (.istore 4, 2) := by decide +kernel
theorem dX11_deep_45 : decode cX11_deep 45 = .ok (.aload_n 0, 1) := by decide +kernel
theorem dX11_deep_46 : decode cX11_deep 46 = .ok (.getfield 50, 3) := by decide +kernel
theorem dX11_deep_49 : decode cX11_deep 49 = .ok (.iload_n 3, 1) := by decide +kernel
