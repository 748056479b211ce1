theorem dX5_init_0 : decode cX5_init 0 = .ok (.aload_n 0, 1) := by decide +kernel
theorem dX5_init_1 : decode cX5_init 1 = .ok (.invokespecial 1, 3) := by decide +kernel
theorem dX5_init_4 : decode cX5_init 4 = .ok (.aload_n 0, 1) := by decide +kernel
theorem dX5_init_5 : decode cX5_init 5 = .ok (.iconst 5, 1) := by decide +kernel
theorem dX5_init_6 : decode cX5_init 6 = .ok (.newarray .int, 2) := by decide +kernel
theorem dX5_init_8 : decode cX5_init 8 = .ok (.putfield 7, 3) := by decide +kernel
theorem dX5_init_11 : decode cX5_init 11 = .ok (.aload_n 0, 1) := by decide +kernel
theorem dX5_init_12 : decode cX5_init 12 = .ok (.iconst 5, 1) := by decide +kernel
theorem dX5_init_13 : decode cX5_init 13 = .ok (.newarray .int, 2) := by decide +kernel
theorem dX5_init_15 : decode cX5_init 15 = .ok (.putfield 13, 3) := by decide +kernel
theorem dX5_init_18 : decode cX5_init 18 = .ok (.aload_n 0, 1) := by decide +kernel
theorem dX5_init_19 : decode cX5_init 19 = .ok (.bipush 25, 2) := by decide +kernel
theorem dX5_init_21 : decode cX5_init 21 = .ok (.newarray .boolean, 2) := by decide +kernel
theorem dX5_init_23 : decode cX5_init 23 = .ok (.putfield 16, 3) := by decide +kernel
theorem dX5_init_26 : decode cX5_init 26 = .ok (.aload_n 0, 1) := by decide +kernel
theorem dX5_init_27 : decode cX5_init 27 = .ok (.bipush 25, 2) := by decide +kernel
theorem dX5_init_29 : decode cX5_init 29 = .ok (.newarray .int, 2) := by decide +kernel
theorem dX5_init_31 : decode cX5_init 31 = .ok (.putfield 20, 3) := by decide +kernel
theorem dX5_init_34 : decode cX5_init 34 = .ok (.aload_n 0, 1) := by decide +kernel
theorem dX5_init_35 : decode cX5_init 35 = .ok (.bipush 25, 2) := by decide +kernel
theorem dX5_init_37 : decode cX5_init 37 = .ok (.newarray .int, 2) := by decide +kernel
theorem dX5_init_39 : decode cX5_init 39 = .ok (.putfield 23, 3) := by decide +kernel
theorem dX5_init_42 : decode cX5_init 42 = .ok (.aload_n 0, 1) := by decide +kernel
theorem dX5_init_43 : decode cX5_init 43 = .ok (.bipush 25, 2) := by decide +kernel
theorem dX5_init_45 : decode cX5_init 45 = .ok (.newarray .long, 2) := by decide +kernel
theorem dX5_init_47 : decode cX5_init 47 = .ok (.putfield 26, 3) := by decide +kernel
theorem dX5_init_50 : decode cX5_init 50 = .ok (.aload_n 0, 1) := by decide +kernel
theorem dX5_init_51 : decode cX5_init 51 = .ok (.bipush 25, 2) := by decide +kernel
theorem dX5_init_53 : decode cX5_init 53 = .ok (.newarray .long, 2) := by decide +kernel
theorem dX5_init_55 : decode cX5_init 55 = .ok (.putfield 30, 3) := by decide +kernel
theorem dX5_init_58 : decode cX5_init 58 = .ok (.aload_n 0, 1) := by decide +kernel
theorem dX5_init_59 : decode cX5_init 59 = .ok (.bipush 20, 2) := by decide +kernel
theorem dX5_init_61 : decode cX5_init 61 = .ok (.newarray .int, 2) := by decide +kernel
theorem dX5_init_63 : decode cX5_init 63 = .ok (.putfield 33, 3) := by decide +kernel
theorem dX5_init_66 : decode cX5_init 66 = .ok (.aload_n 0, 1) := by decide +kernel
theorem dX5_init_67 : decode cX5_init 67 = .ok (.sipush 200, 3) := by decide +kernel
theorem dX5_init_70 : decode cX5_init 70 = .ok (.newarray .int, 2) := by decide +kernel
theorem dX5_init_72 : decode cX5_init 72 = .ok (.putfield 36, 3) := by decide +kernel
theorem dX5_init_75 : decode cX5_init 75 = .ok (.aload_n 0, 1) := by decide +kernel
theorem dX5_init_76 : decode cX5_init 76 = .ok (.bipush 20, 2) := by decide +kernel
theorem dX5_init_78 : decode cX5_init 78 = .ok (.newarray .int, 2) := by decide +kernel
theorem dX5_init_80 : decode cX5_init 80 = .ok (.putfield 39, 3) := by decide +kernel
theorem dX5_init_83 : decode cX5_init 83 = .ok (.aload_n 0, 1) := by decide +kernel
theorem dX5_init_84 : decode cX5_init 84 = .ok (.bipush 20, 2) := by decide +kernel
theorem dX5_init_86 : decode cX5_init 86 = .ok (.newarray .int, 2) := by decide +kernel
theorem dX5_init_88 : decode cX5_init 88 = .ok (.putfield 42, 3) := by decide +kernel
theorem dX5_init_91 : decode cX5_init 91 = .ok (.aload_n 0, 1) := by decide +kernel
theorem dX5_init_92 : decode cX5_init 92 = .ok (.bipush 60, 2) := by decide +kernel
theorem dX5_init_94 : decode cX5_init 94 = .ok (.newarray .int, 2) := by decide +kernel
theorem dX5_init_96 : decode cX5_init 96 = .ok (.putfield 45, 3) := by decide +kernel
theorem dX5_init_99 : decode cX5_init 99 = .ok (.aload_n 0, 1) := by decide +kernel
theorem dX5_init_100 : decode cX5_init 100 = .ok (.bipush 60, 2) := by decide +kernel
theorem dX5_init_102 : decode cX5_init 102 = .ok (.newarray .int, 2) := by decide +kernel
theorem dX5_init_104 : decode cX5_init 104 = .ok (.putfield 48, 3) := by decide +kernel
theorem dX5_init_107 : decode cX5_init 107 = .ok (.aload_n 0, 1) := by decide +kernel
theorem dX5_init_108 : decode cX5_init 108 = .ok (.bipush 60, 2) := by decide +kernel
theorem dX5_init_110 : decode cX5_init 110 = .ok (.newarray .int, 2) := by decide +kernel
theorem dX5_init_112 : decode cX5_init 112 = .ok (.putfield 51, 3) := by decide +kernel
theorem dX5_init_115 : decode cX5_init 115 = .ok (.aload_n 0, 1) := by decide +kernel
theorem dX5_init_116 : decode cX5_init 116 = .ok (.bipush 60, 2) := by decide +kernel
theorem dX5_init_118 : decode cX5_init 118 = .ok (.newarray .int, 2) := by decide +kernel
theorem dX5_init_120 : decode cX5_init 120 = .ok (.putfield 54, 3) := by decide +kernel
theorem dX5_init_123 : decode cX5_init 123 = .ok (.aload_n 0, 1) := by decide +kernel
theorem dX5_init_124 : decode cX5_init 124 = .ok (.bipush 60, 2) := by decide +kernel
theorem dX5_init_126 : decode cX5_init 126 = .ok (.newarray .int, 2) := by decide +kernel
theorem dX5_init_128 : decode cX5_init 128 = .ok (.putfield 57, 3) := by decide +kernel
theorem dX5_init_131 : decode cX5_init 131 = .ok (.aload_n 0, 1) := by decide +kernel
theorem dX5_init_132 : decode cX5_init 132 = .ok (.bipush 60, 2) := by decide +kernel
theorem dX5_init_134 : decode cX5_init 134 = .ok (.newarray .int, 2) := by decide +kernel
theorem dX5_init_136 : decode cX5_init 136 = .ok (.putfield 60, 3) := by decide +kernel
theorem dX5_init_139 : decode cX5_init 139 = .ok (.aload_n 0, 1) := by decide +kernel
theorem dX5_init_140 : decode cX5_init 140 = .ok (.bipush 60, 2) := by decide +kernel
theorem dX5_init_142 : decode cX5_init 142 = .ok (.newarray .int, 2) := by decide +kernel
theorem dX5_init_144 : decode cX5_init 144 = .ok (.putfield 63, 3) := by decide +kernel
theorem dX5_init_147 : decode cX5_init 147 = .ok (.aload_n 0, 1) := by decide +kernel
theorem dX5_init_148 : decode cX5_init 148 = .ok (.bipush 60, 2) := by decide +kernel
theorem dX5_init_150 : decode cX5_init 150 = .ok (.newarray .int, 2) := by decide +kernel
theorem dX5_init_152 : decode cX5_init 152 = .ok (.putfield 66, 3) := by decide +kernel
theorem dX5_init_155 : decode cX5_init 155 = .ok (.aload_n 0, 1) := by decide +kernel
theorem dX5_init_156 : decode cX5_init 156 = .ok (.sipush 300, 3) := by decide +kernel
theorem dX5_init_159 : decode cX5_init 159 = .ok (.newarray .int, 2) := by decide +kernel
theorem dX5_init_161 : decode cX5_init 161 = .ok (.putfield 69, 3) := by decide +kernel
theorem dX5_init_164 : decode cX5_init 164 = .ok (.aload_n 0, 1) := by decide +kernel
theorem dX5_init_165 : decode cX5_init 165 = .ok (.iconst 5, 1) := by decide +kernel
theorem dX5_init_166 : decode cX5_init 166 = .ok (.newarray .int, 2) := by decide +kernel
theorem dX5_init_168 : decode cX5_init 168 = .ok (.putfield 72, 3) := by decide +kernel
theorem dX5_init_171 : decode cX5_init 171 = .ok (.aload_n 0, 1) := by decide +kernel
theorem dX5_init_172 : decode cX5_init 172 = .ok (.iconst 5, 1) := by decide +kernel
theorem dX5_init_173 : decode cX5_init 173 = .ok (.newarray .int, 2) := by decide +kernel
theorem dX5_init_175 : decode cX5_init 175 = .ok (.putfield 75, 3) := by decide +kernel
theorem dX5_init_178 : decode cX5_init 178 = .ok (.iconst 0, 1) := by decide +kernel
theorem dX5_init_179 : decode cX5_init 179 = .ok (.istore_n 1, 1) := by decide +kernel
theorem dX5_init_180 : decode cX5_init 180 = .ok (.iload_n 1, 1) := by decide +kernel
theorem dX5_init_181 : decode cX5_init 181 = .ok (.iconst 5, 1) := by decide +kernel
theorem dX5_init_182 : decode cX5_init 182 = .ok (.if_icmp .ge 24, 3) := by decide +kernel
theorem dX5_init_185 : decode cX5_init 185 = .ok (.aload_n 0, 1) := by decide +kernel
theorem dX5_init_186 : decode cX5_init 186 = .ok (.getfield 7, 3) := by decide +kernel
theorem dX5_init_189 : decode cX5_init 189 = .ok (.iload_n 1, 1) := by decide +kernel
theorem dX5_init_190 : decode cX5_init 190 = .ok (.iconst 1, 1) := by decide +kernel
theorem dX5_init_191 : decode cX5_init 191 = .ok (.iastore, 1) := by decide +kernel
theorem dX5_init_192 : decode cX5_init 192 = .ok (.aload_n 0, 1) := by decide +kernel
theorem dX5_init_193 : decode cX5_init 193 = .ok (.getfield 13, 3) := by decide +kernel
theorem dX5_init_196 : decode cX5_init 196 = .ok (.iload_n 1, 1) := by decide +kernel
theorem dX5_init_197 : decode cX5_init 197 = .ok (.bipush 10, 2) := by decide +kernel
theorem dX5_init_199 : decode cX5_init 199 = .ok (.iastore, 1) := by decide +kernel
theorem dX5_init_200 : decode cX5_init 200 = .ok (.iinc 1 1, 3) := by decide +kernel
theorem dX5_init_203 : decode cX5_init 203 = .ok (.goto (-23), 3) := by decide +kernel
theorem dX5_init_206 : decode cX5_init 206 = .ok (.return_, 1) := by decide +kernel
theorem dX5_thrown_0 : decode cX5_thrown 0 = .ok (.aload_n 0, 1) := by decide +kernel
theorem dX5_thrown_1 : decode cX5_thrown 1 = .ok (.getfield 78, 3) := by decide +kernel
theorem dX5_thrown_4 : decode cX5_thrown 4 = .ok (.ireturn, 1) := by decide +kernel
theorem dX5_isIn_0 : decode cX5_isIn 0 = .ok (.iload_n 0, 1) := by decide +kernel
theorem dX5_isIn_1 : decode cX5_isIn 1 = .ok (.iload_n 1, 1) := by decide +kernel
theorem dX5_isIn_2 : decode cX5_isIn 2 = .ok (.if_icmp .lt 12, 3) := by decide +kernel
theorem dX5_isIn_5 : decode cX5_isIn 5 = .ok (.iload_n 0, 1) := by decide +kernel
theorem dX5_isIn_6 : decode cX5_isIn 6 = .ok (.iload_n 2, 1) := by decide +kernel
theorem dX5_isIn_7 : decode cX5_isIn 7 = .ok (.if_icmp .gt 7, 3) := by decide +kernel
theorem dX5_isIn_10 : decode cX5_isIn 10 = .ok (.iconst 1, 1) := by decide +kernel
theorem dX5_isIn_11 : decode cX5_isIn 11 = .ok (.goto 4, 3) := by decide +kernel
theorem dX5_isIn_14 : decode cX5_isIn 14 = .ok (.iconst 0, 1) := by decide +kernel
theorem dX5_isIn_15 : decode cX5_isIn 15 = .ok (.ireturn, 1) := by decide +kernel
theorem dX5_isCarrier_0 : decode cX5_isCarrier 0 = .ok (.iload_n 0, 1) := by decide +kernel
theorem dX5_isCarrier_1 : decode cX5_isCarrier 1 = .ok (.iconst 0, 1) := by decide +kernel
theorem dX5_isCarrier_2 : decode cX5_isCarrier 2 = .ok (.iconst 4, 1) := by decide +kernel
theorem dX5_isCarrier_3 : decode cX5_isCarrier 3 = .ok (.invokestatic 82, 3) := by decide +kernel
theorem dX5_isCarrier_6 : decode cX5_isCarrier 6 = .ok (.ireturn, 1) := by decide +kernel
theorem dX5_areCarriers_0 : decode cX5_areCarriers 0 = .ok (.iload_n 0, 1) := by decide +kernel
theorem dX5_areCarriers_1 : decode cX5_areCarriers 1 = .ok (.invokestatic 86, 3) := by decide +kernel
theorem dX5_areCarriers_4 : decode cX5_areCarriers 4 = .ok (.ifCond .eq 14, 3) := by decide +kernel
theorem dX5_areCarriers_7 : decode cX5_areCarriers 7 = .ok (.iload_n 1, 1) := by decide +kernel
theorem dX5_areCarriers_8 : decode cX5_areCarriers 8 = .ok (.invokestatic 86, 3) := by decide +kernel
theorem dX5_areCarriers_11 : decode cX5_areCarriers 11 = .ok (.ifCond .eq 7, 3) := by decide +kernel
theorem dX5_areCarriers_14 : decode cX5_areCarriers 14 = .ok (.iconst 1, 1) := by decide +kernel
theorem dX5_areCarriers_15 : decode cX5_areCarriers 15 = .ok (.goto 4, 3) := by decide +kernel
theorem dX5_areCarriers_18 : decode cX5_areCarriers 18 = .ok (.iconst 0, 1) := by decide +kernel
theorem dX5_areCarriers_19 : decode cX5_areCarriers 19 = .ok (.ireturn, 1) := by decide +kernel
theorem dX5_isNumber_0 : decode cX5_isNumber 0 = .ok (.iload_n 1, 1) := by decide +kernel
theorem dX5_isNumber_1 : decode cX5_isNumber 1 = .ok (.iconst 0, 1) := by decide +kernel
theorem dX5_isNumber_2 : decode cX5_isNumber 2 = .ok (.aload_n 0, 1) := by decide +kernel
theorem dX5_isNumber_3 : decode cX5_isNumber 3 = .ok (.getfield 90, 3) := by decide +kernel
theorem dX5_isNumber_6 : decode cX5_isNumber 6 = .ok (.iconst 1, 1) := by decide +kernel
theorem dX5_isNumber_7 : decode cX5_isNumber 7 = .ok (.isub, 1) := by decide +kernel
theorem dX5_isNumber_8 : decode cX5_isNumber 8 = .ok (.invokestatic 82, 3) := by decide +kernel
theorem dX5_isNumber_11 : decode cX5_isNumber 11 = .ok (.ireturn, 1) := by decide +kernel
theorem dX5_isCall_0 : decode cX5_isCall 0 = .ok (.iload_n 1, 1) := by decide +kernel
theorem dX5_isCall_1 : decode cX5_isCall 1 = .ok (.iconst 0, 1) := by decide +kernel
theorem dX5_isCall_2 : decode cX5_isCall 2 = .ok (.aload_n 0, 1) := by decide +kernel
theorem dX5_isCall_3 : decode cX5_isCall 3 = .ok (.getfield 93, 3) := by decide +kernel
theorem dX5_isCall_6 : decode cX5_isCall 6 = .ok (.iconst 1, 1) := by decide +kernel
theorem dX5_isCall_7 : decode cX5_isCall 7 = .ok (.isub, 1) := by decide +kernel
theorem dX5_isCall_8 : decode cX5_isCall 8 = .ok (.invokestatic 82, 3) := by decide +kernel
theorem dX5_isCall_11 : decode cX5_isCall 11 = .ok (.ireturn, 1) := by decide +kernel
theorem dX5_homeOf_0 : decode cX5_homeOf 0 = .ok (.aload_n 0, 1) := by decide +kernel
theorem dX5_homeOf_1 : decode cX5_homeOf 1 = .ok (.getfield 36, 3) := by decide +kernel
theorem dX5_homeOf_4 : decode cX5_homeOf 4 = .ok (.bipush 10, 2) := by decide +kernel
theorem dX5_homeOf_6 : decode cX5_homeOf 6 = .ok (.iload_n 1, 1) := by decide +kernel
theorem dX5_homeOf_7 : decode cX5_homeOf 7 = .ok (.imul, 1) := by decide +kernel
theorem dX5_homeOf_8 : decode cX5_homeOf 8 = .ok (.aload_n 0, 1) := by decide +kernel
theorem dX5_homeOf_9 : decode cX5_homeOf 9 = .ok (.getfield 33, 3) := by decide +kernel
theorem dX5_homeOf_12 : decode cX5_homeOf 12 = .ok (.iload_n 1, 1) := by decide +kernel
theorem dX5_homeOf_13 : decode cX5_homeOf 13 = .ok (.iaload, 1) := by decide +kernel
theorem dX5_homeOf_14 : decode cX5_homeOf 14 = .ok (.iadd, 1) := by decide +kernel
theorem dX5_homeOf_15 : decode cX5_homeOf 15 = .ok (.iconst 1, 1) := by decide +kernel
theorem dX5_homeOf_16 : decode cX5_homeOf 16 = .ok (.isub, 1) := by decide +kernel
theorem dX5_homeOf_17 : decode cX5_homeOf 17 = .ok (.iaload, 1) := by decide +kernel
theorem dX5_homeOf_18 : decode cX5_homeOf 18 = .ok (.ireturn, 1) := by decide +kernel
theorem dX5_tariff_0 : decode cX5_tariff 0 = .ok (.aload_n 0, 1) := by decide +kernel
theorem dX5_tariff_1 : decode cX5_tariff 1 = .ok (.iload_n 1, 1) := by decide +kernel
theorem dX5_tariff_2 : decode cX5_tariff 2 = .ok (.invokestatic 86, 3) := by decide +kernel
theorem dX5_tariff_5 : decode cX5_tariff 5 = .ok (.ifCond .ne 7, 3) := by decide +kernel
theorem dX5_tariff_8 : decode cX5_tariff 8 = .ok (.iconst 1, 1) := by decide +kernel
theorem dX5_tariff_9 : decode cX5_tariff 9 = .ok (.goto 29, 3) := by decide +kernel
theorem dX5_tariff_12 : decode cX5_tariff 12 = .ok (.iload_n 2, 1) := by decide +kernel
theorem dX5_tariff_13 : decode cX5_tariff 13 = .ok (.iconst 1, 1) := by decide +kernel
theorem dX5_tariff_14 : decode cX5_tariff 14 = .ok (.bipush 10, 2) := by decide +kernel
theorem dX5_tariff_16 : decode cX5_tariff 16 = .ok (.invokestatic 82, 3) := by decide +kernel
theorem dX5_tariff_19 : decode cX5_tariff 19 = .ok (.ifCond .eq 18, 3) := by decide +kernel
theorem dX5_tariff_22 : decode cX5_tariff 22 = .ok (.iload_n 3, 1) := by decide +kernel
theorem dX5_tariff_23 : decode cX5_tariff 23 = .ok (.iconst 0, 1) := by decide +kernel
theorem dX5_tariff_24 : decode cX5_tariff 24 = .ok (.sipush 1000, 3) := by decide +kernel
theorem dX5_tariff_27 : decode cX5_tariff 27 = .ok (.invokestatic 82, 3) := by decide +kernel
theorem dX5_tariff_30 : decode cX5_tariff 30 = .ok (.ifCond .eq 7, 3) := by decide +kernel
theorem dX5_tariff_33 : decode cX5_tariff 33 = .ok (.iconst 0, 1) := by decide +kernel
theorem dX5_tariff_34 : decode cX5_tariff 34 = .ok (.goto 4, 3) := by decide +kernel
theorem dX5_tariff_37 : decode cX5_tariff 37 = .ok (.iconst 2, 1) := by decide +kernel
theorem dX5_tariff_38 : decode cX5_tariff 38 = .ok (.putfield 78, 3) := by decide +kernel
theorem dX5_tariff_41 : decode cX5_tariff 41 = .ok (.aload_n 0, 1) := by decide +kernel
theorem dX5_tariff_42 : decode cX5_tariff 42 = .ok (.getfield 78, 3) := by decide +kernel
theorem dX5_tariff_45 : decode cX5_tariff 45 = .ok (.ifCond .le 5, 3) := by decide +kernel
theorem dX5_tariff_48 : decode cX5_tariff 48 = .ok (.iconst 0, 1) := by decide +kernel
theorem dX5_tariff_49 : decode cX5_tariff 49 = .ok (.ireturn, 1) := by decide +kernel
theorem dX5_tariff_50 : decode cX5_tariff 50 = .ok (.aload_n 0, 1) := by decide +kernel
theorem dX5_tariff_51 : decode cX5_tariff 51 = .ok (.getfield 13, 3) := by decide +kernel
theorem dX5_tariff_54 : decode cX5_tariff 54 = .ok (.iload_n 1, 1) := by decide +kernel
theorem dX5_tariff_55 : decode cX5_tariff 55 = .ok (.iaload, 1) := by decide +kernel
theorem dX5_tariff_56 : decode cX5_tariff 56 = .ok (.istore 4, 2) := by decide +kernel
theorem dX5_tariff_58 : decode cX5_tariff 58 = .ok (.aload_n 0, 1) := by decide +kernel
theorem dX5_tariff_59 : decode cX5_tariff 59 = .ok (.getfield 7, 3) := by decide +kernel
theorem dX5_tariff_62 : decode cX5_tariff 62 = .ok (.iload_n 1, 1) := by decide +kernel
theorem dX5_tariff_63 : decode cX5_tariff 63 = .ok (.iload_n 2, 1) := by decide +kernel
theorem dX5_tariff_64 : decode cX5_tariff 64 = .ok (.iastore, 1) := by decide +kernel
theorem dX5_tariff_65 : decode cX5_tariff 65 = .ok (.aload_n 0, 1) := by decide +kernel
theorem dX5_tariff_66 : decode cX5_tariff 66 = .ok (.getfield 13, 3) := by decide +kernel
theorem dX5_tariff_69 : decode cX5_tariff 69 = .ok (.iload_n 1, 1) := by decide +kernel
theorem dX5_tariff_70 : decode cX5_tariff 70 = .ok (.iload_n 3, 1) := by decide +kernel
theorem dX5_tariff_71 : decode cX5_tariff 71 = .ok (.iastore, 1) := by decide +kernel
theorem dX5_tariff_72 : decode cX5_tariff 72 = .ok (.iload 4, 2) := by decide +kernel
theorem dX5_tariff_74 : decode cX5_tariff 74 = .ok (.ireturn, 1) := by decide +kernel
theorem dX5_link_0 : decode cX5_link 0 = .ok (.iload_n 1, 1) := by decide +kernel
theorem dX5_link_1 : decode cX5_link 1 = .ok (.iload_n 2, 1) := by decide +kernel
theorem dX5_link_2 : decode cX5_link 2 = .ok (.if_icmp .eq 28, 3) := by decide +kernel
theorem dX5_link_5 : decode cX5_link 5 = .ok (.iload_n 3, 1) := by decide +kernel
theorem dX5_link_6 : decode cX5_link 6 = .ok (.iconst 0, 1) := by decide +kernel
theorem dX5_link_7 : decode cX5_link 7 = .ok (.bipush 100, 2) := by decide +kernel
theorem dX5_link_9 : decode cX5_link 9 = .ok (.invokestatic 82, 3) := by decide +kernel
theorem dX5_link_12 : decode cX5_link 12 = .ok (.ifCond .eq 18, 3) := by decide +kernel
theorem dX5_link_15 : decode cX5_link 15 = .ok (.iload 4, 2) := by decide +kernel
theorem dX5_link_17 : decode cX5_link 17 = .ok (.iconst 0, 1) := by decide +kernel
theorem dX5_link_18 : decode cX5_link 18 = .ok (.ldc 96, 2) := by decide +kernel
theorem dX5_link_20 : decode cX5_link 20 = .ok (.invokestatic 82, 3) := by decide +kernel
theorem dX5_link_23 : decode cX5_link 23 = .ok (.ifCond .eq 7, 3) := by decide +kernel
theorem dX5_link_26 : decode cX5_link 26 = .ok (.iconst 1, 1) := by decide +kernel
theorem dX5_link_27 : decode cX5_link 27 = .ok (.goto 4, 3) := by decide +kernel
theorem dX5_link_30 : decode cX5_link 30 = .ok (.iconst 0, 1) := by decide +kernel
theorem dX5_link_31 : decode cX5_link 31 = .ok (.istore 5, 2) := by decide +kernel
theorem dX5_link_33 : decode cX5_link 33 = .ok (.aload_n 0, 1) := by decide +kernel
theorem dX5_link_34 : decode cX5_link 34 = .ok (.iload_n 1, 1) := by decide +kernel
theorem dX5_link_35 : decode cX5_link 35 = .ok (.iload_n 2, 1) := by decide +kernel
theorem dX5_link_36 : decode cX5_link 36 = .ok (.invokestatic 97, 3) := by decide +kernel
theorem dX5_link_39 : decode cX5_link 39 = .ok (.ifCond .ne 7, 3) := by decide +kernel
theorem dX5_link_42 : decode cX5_link 42 = .ok (.iconst 1, 1) := by decide +kernel
theorem dX5_link_43 : decode cX5_link 43 = .ok (.goto 13, 3) := by decide +kernel
theorem dX5_link_46 : decode cX5_link 46 = .ok (.iload 5, 2) := by decide +kernel
theorem dX5_link_48 : decode cX5_link 48 = .ok (.ifCond .eq 7, 3) := by decide +kernel
theorem dX5_link_51 : decode cX5_link 51 = .ok (.iconst 0, 1) := by decide +kernel
theorem dX5_link_52 : decode cX5_link 52 = .ok (.goto 4, 3) := by decide +kernel
theorem dX5_link_55 : decode cX5_link 55 = .ok (.iconst 2, 1) := by decide +kernel
theorem dX5_link_56 : decode cX5_link 56 = .ok (.putfield 78, 3) := by decide +kernel
theorem dX5_link_59 : decode cX5_link 59 = .ok (.aload_n 0, 1) := by decide +kernel
theorem dX5_link_60 : decode cX5_link 60 = .ok (.getfield 78, 3) := by decide +kernel
theorem dX5_link_63 : decode cX5_link 63 = .ok (.ifCond .le 5, 3) := by decide +kernel
theorem dX5_link_66 : decode cX5_link 66 = .ok (.iconst 0, 1) := by decide +kernel
theorem dX5_link_67 : decode cX5_link 67 = .ok (.ireturn, 1) := by decide +kernel
theorem dX5_link_68 : decode cX5_link 68 = .ok (.iconst 5, 1) := by decide +kernel
theorem dX5_link_69 : decode cX5_link 69 = .ok (.iload_n 1, 1) := by decide +kernel
theorem dX5_link_70 : decode cX5_link 70 = .ok (.imul, 1) := by decide +kernel
theorem dX5_link_71 : decode cX5_link 71 = .ok (.iload_n 2, 1) := by decide +kernel
theorem dX5_link_72 : decode cX5_link 72 = .ok (.iadd, 1) := by decide +kernel
theorem dX5_link_73 : decode cX5_link 73 = .ok (.istore 6, 2) := by decide +kernel
theorem dX5_link_75 : decode cX5_link 75 = .ok (.aload_n 0, 1) := by decide +kernel
theorem dX5_link_76 : decode cX5_link 76 = .ok (.getfield 16, 3) := by decide +kernel
theorem dX5_link_79 : decode cX5_link 79 = .ok (.iload 6, 2) := by decide +kernel
theorem dX5_link_81 : decode cX5_link 81 = .ok (.baload, 1) := by decide +kernel
theorem dX5_link_82 : decode cX5_link 82 = .ok (.istore 7, 2) := by decide +kernel
theorem dX5_link_84 : decode cX5_link 84 = .ok (.aload_n 0, 1) := by decide +kernel
theorem dX5_link_85 : decode cX5_link 85 = .ok (.getfield 16, 3) := by decide +kernel
theorem dX5_link_88 : decode cX5_link 88 = .ok (.iload 6, 2) := by decide +kernel
theorem dX5_link_90 : decode cX5_link 90 = .ok (.iconst 1, 1) := by decide +kernel
theorem dX5_link_91 : decode cX5_link 91 = .ok (.bastore, 1) := by decide +kernel
theorem dX5_link_92 : decode cX5_link 92 = .ok (.aload_n 0, 1) := by decide +kernel
theorem dX5_link_93 : decode cX5_link 93 = .ok (.getfield 20, 3) := by decide +kernel
theorem dX5_link_96 : decode cX5_link 96 = .ok (.iload 6, 2) := by decide +kernel
theorem dX5_link_98 : decode cX5_link 98 = .ok (.iload_n 3, 1) := by decide +kernel
theorem dX5_link_99 : decode cX5_link 99 = .ok (.iastore, 1) := by decide +kernel
theorem dX5_link_100 : decode cX5_link 100 = .ok (.aload_n 0, 1) := by decide +kernel
theorem dX5_link_101 : decode cX5_link 101 = .ok (.getfield 23, 3) := by decide +kernel
theorem dX5_link_104 : decode cX5_link 104 = .ok (.iload 6, 2) := by decide +kernel
theorem dX5_link_106 : decode cX5_link 106 = .ok (.iload 4, 2) := by decide +kernel
theorem dX5_link_108 : decode cX5_link 108 = .ok (.iastore, 1) := by decide +kernel
theorem dX5_link_109 : decode cX5_link 109 = .ok (.iload 7, 2) := by decide +kernel
theorem dX5_link_111 : decode cX5_link 111 = .ok (.ireturn, 1) := by decide +kernel
theorem dX5_unlink_0 : decode cX5_unlink 0 = .ok (.aload_n 0, 1) := by decide +kernel
theorem dX5_unlink_1 : decode cX5_unlink 1 = .ok (.iload_n 1, 1) := by decide +kernel
theorem dX5_unlink_2 : decode cX5_unlink 2 = .ok (.iload_n 2, 1) := by decide +kernel
theorem dX5_unlink_3 : decode cX5_unlink 3 = .ok (.invokestatic 97, 3) := by decide +kernel
theorem dX5_unlink_6 : decode cX5_unlink 6 = .ok (.ifCond .eq 7, 3) := by decide +kernel
theorem dX5_unlink_9 : decode cX5_unlink 9 = .ok (.iconst 0, 1) := by decide +kernel
theorem dX5_unlink_10 : decode cX5_unlink 10 = .ok (.goto 4, 3) := by decide +kernel
theorem dX5_unlink_13 : decode cX5_unlink 13 = .ok (.iconst 1, 1) := by decide +kernel
theorem dX5_unlink_14 : decode cX5_unlink 14 = .ok (.putfield 78, 3) := by decide +kernel
theorem dX5_unlink_17 : decode cX5_unlink 17 = .ok (.aload_n 0, 1) := by decide +kernel
theorem dX5_unlink_18 : decode cX5_unlink 18 = .ok (.getfield 78, 3) := by decide +kernel
theorem dX5_unlink_21 : decode cX5_unlink 21 = .ok (.ifCond .le 5, 3) := by decide +kernel
theorem dX5_unlink_24 : decode cX5_unlink 24 = .ok (.iconst 0, 1) := by decide +kernel
theorem dX5_unlink_25 : decode cX5_unlink 25 = .ok (.ireturn, 1) := by decide +kernel
theorem dX5_unlink_26 : decode cX5_unlink 26 = .ok (.iconst 5, 1) := by decide +kernel
theorem dX5_unlink_27 : decode cX5_unlink 27 = .ok (.iload_n 1, 1) := by decide +kernel
theorem dX5_unlink_28 : decode cX5_unlink 28 = .ok (.imul, 1) := by decide +kernel
theorem dX5_unlink_29 : decode cX5_unlink 29 = .ok (.iload_n 2, 1) := by decide +kernel
theorem dX5_unlink_30 : decode cX5_unlink 30 = .ok (.iadd, 1) := by decide +kernel
theorem dX5_unlink_31 : decode cX5_unlink 31 = .ok (.istore_n 3, 1) := by decide +kernel
theorem dX5_unlink_32 : decode cX5_unlink 32 = .ok (.aload_n 0, 1) := by decide +kernel
theorem dX5_unlink_33 : decode cX5_unlink 33 = .ok (.aload_n 0, 1) := by decide +kernel
theorem dX5_unlink_34 : decode cX5_unlink 34 = .ok (.getfield 16, 3) := by decide +kernel
theorem dX5_unlink_37 : decode cX5_unlink 37 = .ok (.iload_n 3, 1) := by decide +kernel
theorem dX5_unlink_38 : decode cX5_unlink 38 = .ok (.baload, 1) := by decide +kernel
theorem dX5_unlink_39 : decode cX5_unlink 39 = .ok (.ifCond .eq 7, 3) := by decide +kernel
theorem dX5_unlink_42 : decode cX5_unlink 42 = .ok (.iconst 0, 1) := by decide +kernel
theorem dX5_unlink_43 : decode cX5_unlink 43 = .ok (.goto 4, 3) := by decide +kernel
theorem dX5_unlink_46 : decode cX5_unlink 46 = .ok (.iconst 2, 1) := by decide +kernel
theorem dX5_unlink_47 : decode cX5_unlink 47 = .ok (.putfield 78, 3) := by decide +kernel
theorem dX5_unlink_50 : decode cX5_unlink 50 = .ok (.aload_n 0, 1) := by decide +kernel
theorem dX5_unlink_51 : decode cX5_unlink 51 = .ok (.getfield 16, 3) := by decide +kernel
theorem dX5_unlink_54 : decode cX5_unlink 54 = .ok (.iload_n 3, 1) := by decide +kernel
theorem dX5_unlink_55 : decode cX5_unlink 55 = .ok (.iconst 0, 1) := by decide +kernel
theorem dX5_unlink_56 : decode cX5_unlink 56 = .ok (.bastore, 1) := by decide +kernel
theorem dX5_unlink_57 : decode cX5_unlink 57 = .ok (.aload_n 0, 1) := by decide +kernel
theorem dX5_unlink_58 : decode cX5_unlink 58 = .ok (.getfield 78, 3) := by decide +kernel
theorem dX5_unlink_61 : decode cX5_unlink 61 = .ok (.ifCond .le 7, 3) := by decide +kernel
theorem dX5_unlink_64 : decode cX5_unlink 64 = .ok (.iconst 0, 1) := by decide +kernel
theorem dX5_unlink_65 : decode cX5_unlink 65 = .ok (.goto 9, 3) := by decide +kernel
theorem dX5_unlink_68 : decode cX5_unlink 68 = .ok (.aload_n 0, 1) := by decide +kernel
theorem dX5_unlink_69 : decode cX5_unlink 69 = .ok (.getfield 20, 3) := by decide +kernel
theorem dX5_unlink_72 : decode cX5_unlink 72 = .ok (.iload_n 3, 1) := by decide +kernel
theorem dX5_unlink_73 : decode cX5_unlink 73 = .ok (.iaload, 1) := by decide +kernel
theorem dX5_unlink_74 : decode cX5_unlink 74 = .ok (.ireturn, 1) := by decide +kernel
theorem dX5_number_0 : decode cX5_number 0 = .ok (.iload_n 2, 1) := by decide +kernel
theorem dX5_number_1 : decode cX5_number 1 = .ok (.iconst 0, 1) := by decide +kernel
theorem dX5_number_2 : decode cX5_number 2 = .ok (.sipush 10000, 3) := by decide +kernel
theorem dX5_number_5 : decode cX5_number 5 = .ok (.invokestatic 82, 3) := by decide +kernel
theorem dX5_number_8 : decode cX5_number 8 = .ok (.ifCond .eq 18, 3) := by decide +kernel
theorem dX5_number_11 : decode cX5_number 11 = .ok (.iload_n 3, 1) := by decide +kernel
theorem dX5_number_12 : decode cX5_number 12 = .ok (.iconst 0, 1) := by decide +kernel
theorem dX5_number_13 : decode cX5_number 13 = .ok (.sipush 1000, 3) := by decide +kernel
theorem dX5_number_16 : decode cX5_number 16 = .ok (.invokestatic 82, 3) := by decide +kernel
theorem dX5_number_19 : decode cX5_number 19 = .ok (.ifCond .eq 7, 3) := by decide +kernel
theorem dX5_number_22 : decode cX5_number 22 = .ok (.iconst 1, 1) := by decide +kernel
theorem dX5_number_23 : decode cX5_number 23 = .ok (.goto 4, 3) := by decide +kernel
theorem dX5_number_26 : decode cX5_number 26 = .ok (.iconst 0, 1) := by decide +kernel
theorem dX5_number_27 : decode cX5_number 27 = .ok (.istore 4, 2) := by decide +kernel
theorem dX5_number_29 : decode cX5_number 29 = .ok (.aload_n 0, 1) := by decide +kernel
theorem dX5_number_30 : decode cX5_number 30 = .ok (.iload_n 1, 1) := by decide +kernel
theorem dX5_number_31 : decode cX5_number 31 = .ok (.invokestatic 86, 3) := by decide +kernel
theorem dX5_number_34 : decode cX5_number 34 = .ok (.ifCond .ne 7, 3) := by decide +kernel
theorem dX5_number_37 : decode cX5_number 37 = .ok (.iconst 1, 1) := by decide +kernel
theorem dX5_number_38 : decode cX5_number 38 = .ok (.goto 26, 3) := by decide +kernel
theorem dX5_number_41 : decode cX5_number 41 = .ok (.iload 4, 2) := by decide +kernel
theorem dX5_number_43 : decode cX5_number 43 = .ok (.ifCond .ne 7, 3) := by decide +kernel
theorem dX5_number_46 : decode cX5_number 46 = .ok (.iconst 2, 1) := by decide +kernel
theorem dX5_number_47 : decode cX5_number 47 = .ok (.goto 17, 3) := by decide +kernel
theorem dX5_number_50 : decode cX5_number 50 = .ok (.aload_n 0, 1) := by decide +kernel
theorem dX5_number_51 : decode cX5_number 51 = .ok (.getfield 90, 3) := by decide +kernel
theorem dX5_number_54 : decode cX5_number 54 = .ok (.bipush 20, 2) := by decide +kernel
theorem dX5_number_56 : decode cX5_number 56 = .ok (.if_icmp .ne 7, 3) := by decide +kernel
theorem dX5_number_59 : decode cX5_number 59 = .ok (.iconst 3, 1) := by decide +kernel
theorem dX5_number_60 : decode cX5_number 60 = .ok (.goto 4, 3) := by decide +kernel
theorem dX5_number_63 : decode cX5_number 63 = .ok (.iconst 0, 1) := by decide +kernel
theorem dX5_number_64 : decode cX5_number 64 = .ok (.putfield 78, 3) := by decide +kernel
theorem dX5_number_67 : decode cX5_number 67 = .ok (.aload_n 0, 1) := by decide +kernel
theorem dX5_number_68 : decode cX5_number 68 = .ok (.getfield 78, 3) := by decide +kernel
theorem dX5_number_71 : decode cX5_number 71 = .ok (.ifCond .le 5, 3) := by decide +kernel
theorem dX5_number_74 : decode cX5_number 74 = .ok (.iconst 0, 1) := by decide +kernel
theorem dX5_number_75 : decode cX5_number 75 = .ok (.ireturn, 1) := by decide +kernel
theorem dX5_number_76 : decode cX5_number 76 = .ok (.aload_n 0, 1) := by decide +kernel
theorem dX5_number_77 : decode cX5_number 77 = .ok (.getfield 33, 3) := by decide +kernel
theorem dX5_number_80 : decode cX5_number 80 = .ok (.aload_n 0, 1) := by decide +kernel
theorem dX5_number_81 : decode cX5_number 81 = .ok (.getfield 90, 3) := by decide +kernel
theorem dX5_number_84 : decode cX5_number 84 = .ok (.iconst 1, 1) := by decide +kernel
theorem dX5_number_85 : decode cX5_number 85 = .ok (.iastore, 1) := by decide +kernel
theorem dX5_number_86 : decode cX5_number 86 = .ok (.aload_n 0, 1) := by decide +kernel
theorem dX5_number_87 : decode cX5_number 87 = .ok (.getfield 36, 3) := by decide +kernel
theorem dX5_number_90 : decode cX5_number 90 = .ok (.bipush 10, 2) := by decide +kernel
theorem dX5_number_92 : decode cX5_number 92 = .ok (.aload_n 0, 1) := by decide +kernel
theorem dX5_number_93 : decode cX5_number 93 = .ok (.getfield 90, 3) := by decide +kernel
theorem dX5_number_96 : decode cX5_number 96 = .ok (.imul, 1) := by decide +kernel
theorem dX5_number_97 : decode cX5_number 97 = .ok (.iload_n 1, 1) := by decide +kernel
theorem dX5_number_98 : decode cX5_number 98 = .ok (.iastore, 1) := by decide +kernel
theorem dX5_number_99 : decode cX5_number 99 = .ok (.aload_n 0, 1) := by decide +kernel
theorem dX5_number_100 : decode cX5_number 100 = .ok (.getfield 39, 3) := by decide +kernel
theorem dX5_number_103 : decode cX5_number 103 = .ok (.aload_n 0, 1) := by decide +kernel
theorem dX5_number_104 : decode cX5_number 104 = .ok (.getfield 90, 3) := by decide +kernel
theorem dX5_number_107 : decode cX5_number 107 = .ok (.iload_n 2, 1) := by decide +kernel
theorem dX5_number_108 : decode cX5_number 108 = .ok (.iastore, 1) := by decide +kernel
theorem dX5_number_109 : decode cX5_number 109 = .ok (.aload_n 0, 1) := by decide +kernel
theorem dX5_number_110 : decode cX5_number 110 = .ok (.getfield 42, 3) := by decide +kernel
theorem dX5_number_113 : decode cX5_number 113 = .ok (.aload_n 0, 1) := by decide +kernel
theorem dX5_number_114 : decode cX5_number 114 = .ok (.getfield 90, 3) := by decide +kernel
theorem dX5_number_117 : decode cX5_number 117 = .ok (.iload_n 3, 1) := by decide +kernel
theorem dX5_number_118 : decode cX5_number 118 = .ok (.iastore, 1) := by decide +kernel
theorem dX5_number_119 : decode cX5_number 119 = .ok (.aload_n 0, 1) := by decide +kernel
theorem dX5_number_120 : decode cX5_number 120 = .ok (.dup, 1) := by decide +kernel
theorem dX5_number_121 : decode cX5_number 121 = .ok (.getfield 90, 3) := by decide +kernel
theorem dX5_number_124 : decode cX5_number 124 = .ok (.iconst 1, 1) := by decide +kernel
theorem dX5_number_125 : decode cX5_number 125 = .ok (.iadd, 1) := by decide +kernel
theorem dX5_number_126 : decode cX5_number 126 = .ok (.putfield 90, 3) := by decide +kernel
theorem dX5_number_129 : decode cX5_number 129 = .ok (.aload_n 0, 1) := by decide +kernel
theorem dX5_number_130 : decode cX5_number 130 = .ok (.getfield 90, 3) := by decide +kernel
theorem dX5_number_133 : decode cX5_number 133 = .ok (.iconst 1, 1) := by decide +kernel
theorem dX5_number_134 : decode cX5_number 134 = .ok (.isub, 1) := by decide +kernel
theorem dX5_number_135 : decode cX5_number 135 = .ok (.ireturn, 1) := by decide +kernel
theorem dX5_carryOver_0 : decode cX5_carryOver 0 = .ok (.aload_n 0, 1) := by decide +kernel
theorem dX5_carryOver_1 : decode cX5_carryOver 1 = .ok (.aload_n 0, 1) := by decide +kernel
theorem dX5_carryOver_2 : decode cX5_carryOver 2 = .ok (.iload_n 1, 1) := by decide +kernel
theorem dX5_carryOver_3 : decode cX5_carryOver 3 = .ok (.invokevirtual 101, 3) := by decide +kernel
theorem dX5_carryOver_6 : decode cX5_carryOver 6 = .ok (.ifCond .eq 14, 3) := by decide +kernel
theorem dX5_carryOver_9 : decode cX5_carryOver 9 = .ok (.iload_n 2, 1) := by decide +kernel
theorem dX5_carryOver_10 : decode cX5_carryOver 10 = .ok (.invokestatic 86, 3) := by decide +kernel
theorem dX5_carryOver_13 : decode cX5_carryOver 13 = .ok (.ifCond .eq 7, 3) := by decide +kernel
theorem dX5_carryOver_16 : decode cX5_carryOver 16 = .ok (.iconst 0, 1) := by decide +kernel
theorem dX5_carryOver_17 : decode cX5_carryOver 17 = .ok (.goto 4, 3) := by decide +kernel
theorem dX5_carryOver_20 : decode cX5_carryOver 20 = .ok (.iconst 1, 1) := by decide +kernel
theorem dX5_carryOver_21 : decode cX5_carryOver 21 = .ok (.putfield 78, 3) := by decide +kernel
theorem dX5_carryOver_24 : decode cX5_carryOver 24 = .ok (.aload_n 0, 1) := by decide +kernel
theorem dX5_carryOver_25 : decode cX5_carryOver 25 = .ok (.getfield 78, 3) := by decide +kernel
theorem dX5_carryOver_28 : decode cX5_carryOver 28 = .ok (.ifCond .le 5, 3) := by decide +kernel
theorem dX5_carryOver_31 : decode cX5_carryOver 31 = .ok (.iconst 0, 1) := by decide +kernel
theorem dX5_carryOver_32 : decode cX5_carryOver 32 = .ok (.ireturn, 1) := by decide +kernel
theorem dX5_carryOver_33 : decode cX5_carryOver 33 = .ok (.aload_n 0, 1) := by decide +kernel
theorem dX5_carryOver_34 : decode cX5_carryOver 34 = .ok (.aload_n 0, 1) := by decide +kernel
theorem dX5_carryOver_35 : decode cX5_carryOver 35 = .ok (.iload_n 1, 1) := by decide +kernel
theorem dX5_carryOver_36 : decode cX5_carryOver 36 = .ok (.invokevirtual 104, 3) := by decide +kernel
theorem dX5_carryOver_39 : decode cX5_carryOver 39 = .ok (.iload_n 2, 1) := by decide +kernel
theorem dX5_carryOver_40 : decode cX5_carryOver 40 = .ok (.if_icmp .ne 7, 3) := by decide +kernel
theorem dX5_carryOver_43 : decode cX5_carryOver 43 = .ok (.iconst 2, 1) := by decide +kernel
theorem dX5_carryOver_44 : decode cX5_carryOver 44 = .ok (.goto 19, 3) := by decide +kernel
theorem dX5_carryOver_47 : decode cX5_carryOver 47 = .ok (.aload_n 0, 1) := by decide +kernel
theorem dX5_carryOver_48 : decode cX5_carryOver 48 = .ok (.getfield 33, 3) := by decide +kernel
theorem dX5_carryOver_51 : decode cX5_carryOver 51 = .ok (.iload_n 1, 1) := by decide +kernel
theorem dX5_carryOver_52 : decode cX5_carryOver 52 = .ok (.iaload, 1) := by decide +kernel
theorem dX5_carryOver_53 : decode cX5_carryOver 53 = .ok (.bipush 10, 2) := by decide +kernel
theorem dX5_carryOver_55 : decode cX5_carryOver 55 = .ok (.if_icmp .ne 7, 3) := by decide +kernel
theorem dX5_carryOver_58 : decode cX5_carryOver 58 = .ok (.iconst 3, 1) := by decide +kernel
theorem dX5_carryOver_59 : decode cX5_carryOver 59 = .ok (.goto 4, 3) := by decide +kernel
theorem dX5_carryOver_62 : decode cX5_carryOver 62 = .ok (.iconst 0, 1) := by decide +kernel
theorem dX5_carryOver_63 : decode cX5_carryOver 63 = .ok (.putfield 78, 3) := by decide +kernel
theorem dX5_carryOver_66 : decode cX5_carryOver 66 = .ok (.aload_n 0, 1) := by decide +kernel
theorem dX5_carryOver_67 : decode cX5_carryOver 67 = .ok (.getfield 78, 3) := by decide +kernel
theorem dX5_carryOver_70 : decode cX5_carryOver 70 = .ok (.ifCond .le 5, 3) := by decide +kernel
theorem dX5_carryOver_73 : decode cX5_carryOver 73 = .ok (.iconst 0, 1) := by decide +kernel
theorem dX5_carryOver_74 : decode cX5_carryOver 74 = .ok (.ireturn, 1) := by decide +kernel
theorem dX5_carryOver_75 : decode cX5_carryOver 75 = .ok (.aload_n 0, 1) := by decide +kernel
theorem dX5_carryOver_76 : decode cX5_carryOver 76 = .ok (.getfield 36, 3) := by decide +kernel
theorem dX5_carryOver_79 : decode cX5_carryOver 79 = .ok (.bipush 10, 2) := by decide +kernel
theorem dX5_carryOver_81 : decode cX5_carryOver 81 = .ok (.iload_n 1, 1) := by decide +kernel
theorem dX5_carryOver_82 : decode cX5_carryOver 82 = .ok (.imul, 1) := by decide +kernel
theorem dX5_carryOver_83 : decode cX5_carryOver 83 = .ok (.aload_n 0, 1) := by decide +kernel
theorem dX5_carryOver_84 : decode cX5_carryOver 84 = .ok (.getfield 33, 3) := by decide +kernel
theorem dX5_carryOver_87 : decode cX5_carryOver 87 = .ok (.iload_n 1, 1) := by decide +kernel
theorem dX5_carryOver_88 : decode cX5_carryOver 88 = .ok (.iaload, 1) := by decide +kernel
theorem dX5_carryOver_89 : decode cX5_carryOver 89 = .ok (.iadd, 1) := by decide +kernel
theorem dX5_carryOver_90 : decode cX5_carryOver 90 = .ok (.iload_n 2, 1) := by decide +kernel
theorem dX5_carryOver_91 : decode cX5_carryOver 91 = .ok (.iastore, 1) := by decide +kernel
theorem dX5_carryOver_92 : decode cX5_carryOver 92 = .ok (.aload_n 0, 1) := by decide +kernel
theorem dX5_carryOver_93 : decode cX5_carryOver 93 = .ok (.getfield 33, 3) := by decide +kernel
theorem dX5_carryOver_96 : decode cX5_carryOver 96 = .ok (.iload_n 1, 1) := by decide +kernel
theorem dX5_carryOver_97 : decode cX5_carryOver 97 = .ok (.dup2, 1) := by decide +kernel
theorem dX5_carryOver_98 : decode cX5_carryOver 98 = .ok (.iaload, 1) := by decide +kernel
theorem dX5_carryOver_99 : decode cX5_carryOver 99 = .ok (.iconst 1, 1) := by decide +kernel
theorem dX5_carryOver_100 : decode cX5_carryOver 100 = .ok (.iadd, 1) := by decide +kernel
theorem dX5_carryOver_101 : decode cX5_carryOver 101 = .ok (.iastore, 1) := by decide +kernel
theorem dX5_carryOver_102 : decode cX5_carryOver 102 = .ok (.aload_n 0, 1) := by decide +kernel
theorem dX5_carryOver_103 : decode cX5_carryOver 103 = .ok (.getfield 33, 3) := by decide +kernel
theorem dX5_carryOver_106 : decode cX5_carryOver 106 = .ok (.iload_n 1, 1) := by decide +kernel
theorem dX5_carryOver_107 : decode cX5_carryOver 107 = .ok (.iaload, 1) := by decide +kernel
theorem dX5_carryOver_108 : decode cX5_carryOver 108 = .ok (.ireturn, 1) := by decide +kernel
theorem dX5_home_0 : decode cX5_home 0 = .ok (.aload_n 0, 1) := by decide +kernel
theorem dX5_home_1 : decode cX5_home 1 = .ok (.iload_n 1, 1) := by decide +kernel
theorem dX5_home_2 : decode cX5_home 2 = .ok (.invokevirtual 101, 3) := by decide +kernel
theorem dX5_home_5 : decode cX5_home 5 = .ok (.ifCond .eq 21, 3) := by decide +kernel
theorem dX5_home_8 : decode cX5_home 8 = .ok (.iload_n 2, 1) := by decide +kernel
theorem dX5_home_9 : decode cX5_home 9 = .ok (.ifCond .lt 17, 3) := by decide +kernel
theorem dX5_home_12 : decode cX5_home 12 = .ok (.iload_n 2, 1) := by decide +kernel
theorem dX5_home_13 : decode cX5_home 13 = .ok (.aload_n 0, 1) := by decide +kernel
theorem dX5_home_14 : decode cX5_home 14 = .ok (.getfield 33, 3) := by decide +kernel
theorem dX5_home_17 : decode cX5_home 17 = .ok (.iload_n 1, 1) := by decide +kernel
theorem dX5_home_18 : decode cX5_home 18 = .ok (.iaload, 1) := by decide +kernel
theorem dX5_home_19 : decode cX5_home 19 = .ok (.if_icmp .ge 7, 3) := by decide +kernel
theorem dX5_home_22 : decode cX5_home 22 = .ok (.iconst 1, 1) := by decide +kernel
theorem dX5_home_23 : decode cX5_home 23 = .ok (.goto 4, 3) := by decide +kernel
theorem dX5_home_26 : decode cX5_home 26 = .ok (.iconst 0, 1) := by decide +kernel
theorem dX5_home_27 : decode cX5_home 27 = .ok (.istore_n 3, 1) := by decide +kernel
theorem dX5_home_28 : decode cX5_home 28 = .ok (.aload_n 0, 1) := by decide +kernel
theorem dX5_home_29 : decode cX5_home 29 = .ok (.iload_n 3, 1) := by decide +kernel
theorem dX5_home_30 : decode cX5_home 30 = .ok (.ifCond .eq 7, 3) := by decide +kernel
theorem dX5_home_33 : decode cX5_home 33 = .ok (.iconst 0, 1) := by decide +kernel
theorem dX5_home_34 : decode cX5_home 34 = .ok (.goto 4, 3) := by decide +kernel
theorem dX5_home_37 : decode cX5_home 37 = .ok (.iconst 1, 1) := by decide +kernel
theorem dX5_home_38 : decode cX5_home 38 = .ok (.putfield 78, 3) := by decide +kernel
theorem dX5_home_41 : decode cX5_home 41 = .ok (.aload_n 0, 1) := by decide +kernel
theorem dX5_home_42 : decode cX5_home 42 = .ok (.getfield 78, 3) := by decide +kernel
theorem dX5_home_45 : decode cX5_home 45 = .ok (.ifCond .le 7, 3) := by decide +kernel
theorem dX5_home_48 : decode cX5_home 48 = .ok (.iconst 0, 1) := by decide +kernel
theorem dX5_home_49 : decode cX5_home 49 = .ok (.goto 23, 3) := by decide +kernel
theorem dX5_home_52 : decode cX5_home 52 = .ok (.aload_n 0, 1) := by decide +kernel
theorem dX5_home_53 : decode cX5_home 53 = .ok (.getfield 36, 3) := by decide +kernel
theorem dX5_home_56 : decode cX5_home 56 = .ok (.bipush 10, 2) := by decide +kernel
theorem dX5_home_58 : decode cX5_home 58 = .ok (.iload_n 1, 1) := by decide +kernel
theorem dX5_home_59 : decode cX5_home 59 = .ok (.imul, 1) := by decide +kernel
theorem dX5_home_60 : decode cX5_home 60 = .ok (.aload_n 0, 1) := by decide +kernel
theorem dX5_home_61 : decode cX5_home 61 = .ok (.getfield 33, 3) := by decide +kernel
theorem dX5_home_64 : decode cX5_home 64 = .ok (.iload_n 1, 1) := by decide +kernel
theorem dX5_home_65 : decode cX5_home 65 = .ok (.iaload, 1) := by decide +kernel
theorem dX5_home_66 : decode cX5_home 66 = .ok (.iadd, 1) := by decide +kernel
theorem dX5_home_67 : decode cX5_home 67 = .ok (.iconst 1, 1) := by decide +kernel
theorem dX5_home_68 : decode cX5_home 68 = .ok (.isub, 1) := by decide +kernel
theorem dX5_home_69 : decode cX5_home 69 = .ok (.iload_n 2, 1) := by decide +kernel
theorem dX5_home_70 : decode cX5_home 70 = .ok (.isub, 1) := by decide +kernel
theorem dX5_home_71 : decode cX5_home 71 = .ok (.iaload, 1) := by decide +kernel
theorem dX5_home_72 : decode cX5_home 72 = .ok (.ireturn, 1) := by decide +kernel
theorem dX5_topUp_0 : decode cX5_topUp 0 = .ok (.aload_n 0, 1) := by decide +kernel
theorem dX5_topUp_1 : decode cX5_topUp 1 = .ok (.aload_n 0, 1) := by decide +kernel
theorem dX5_topUp_2 : decode cX5_topUp 2 = .ok (.iload_n 1, 1) := by decide +kernel
theorem dX5_topUp_3 : decode cX5_topUp 3 = .ok (.invokevirtual 101, 3) := by decide +kernel
theorem dX5_topUp_6 : decode cX5_topUp 6 = .ok (.ifCond .ne 7, 3) := by decide +kernel
theorem dX5_topUp_9 : decode cX5_topUp 9 = .ok (.iconst 1, 1) := by decide +kernel
theorem dX5_topUp_10 : decode cX5_topUp 10 = .ok (.goto 30, 3) := by decide +kernel
theorem dX5_topUp_13 : decode cX5_topUp 13 = .ok (.iload_n 2, 1) := by decide +kernel
theorem dX5_topUp_14 : decode cX5_topUp 14 = .ok (.iconst 0, 1) := by decide +kernel
theorem dX5_topUp_15 : decode cX5_topUp 15 = .ok (.sipush 10000, 3) := by decide +kernel
theorem dX5_topUp_18 : decode cX5_topUp 18 = .ok (.invokestatic 82, 3) := by decide +kernel
theorem dX5_topUp_21 : decode cX5_topUp 21 = .ok (.ifCond .eq 18, 3) := by decide +kernel
theorem dX5_topUp_24 : decode cX5_topUp 24 = .ok (.iload_n 3, 1) := by decide +kernel
theorem dX5_topUp_25 : decode cX5_topUp 25 = .ok (.iconst 0, 1) := by decide +kernel
theorem dX5_topUp_26 : decode cX5_topUp 26 = .ok (.sipush 1000, 3) := by decide +kernel
theorem dX5_topUp_29 : decode cX5_topUp 29 = .ok (.invokestatic 82, 3) := by decide +kernel
theorem dX5_topUp_32 : decode cX5_topUp 32 = .ok (.ifCond .eq 7, 3) := by decide +kernel
theorem dX5_topUp_35 : decode cX5_topUp 35 = .ok (.iconst 0, 1) := by decide +kernel
theorem dX5_topUp_36 : decode cX5_topUp 36 = .ok (.goto 4, 3) := by decide +kernel
theorem dX5_topUp_39 : decode cX5_topUp 39 = .ok (.iconst 2, 1) := by decide +kernel
theorem dX5_topUp_40 : decode cX5_topUp 40 = .ok (.putfield 78, 3) := by decide +kernel
theorem dX5_topUp_43 : decode cX5_topUp 43 = .ok (.aload_n 0, 1) := by decide +kernel
theorem dX5_topUp_44 : decode cX5_topUp 44 = .ok (.getfield 78, 3) := by decide +kernel
theorem dX5_topUp_47 : decode cX5_topUp 47 = .ok (.ifCond .le 5, 3) := by decide +kernel
theorem dX5_topUp_50 : decode cX5_topUp 50 = .ok (.iconst 0, 1) := by decide +kernel
theorem dX5_topUp_51 : decode cX5_topUp 51 = .ok (.ireturn, 1) := by decide +kernel
theorem dX5_topUp_52 : decode cX5_topUp 52 = .ok (.aload_n 0, 1) := by decide +kernel
theorem dX5_topUp_53 : decode cX5_topUp 53 = .ok (.aload_n 0, 1) := by decide +kernel
theorem dX5_topUp_54 : decode cX5_topUp 54 = .ok (.getfield 39, 3) := by decide +kernel
theorem dX5_topUp_57 : decode cX5_topUp 57 = .ok (.iload_n 1, 1) := by decide +kernel
theorem dX5_topUp_58 : decode cX5_topUp 58 = .ok (.iaload, 1) := by decide +kernel
theorem dX5_topUp_59 : decode cX5_topUp 59 = .ok (.iload_n 2, 1) := by decide +kernel
theorem dX5_topUp_60 : decode cX5_topUp 60 = .ok (.iadd, 1) := by decide +kernel
theorem dX5_topUp_61 : decode cX5_topUp 61 = .ok (.ldc 108, 2) := by decide +kernel
theorem dX5_topUp_63 : decode cX5_topUp 63 = .ok (.if_icmp .gt 16, 3) := by decide +kernel
theorem dX5_topUp_66 : decode cX5_topUp 66 = .ok (.aload_n 0, 1) := by decide +kernel
theorem dX5_topUp_67 : decode cX5_topUp 67 = .ok (.getfield 42, 3) := by decide +kernel
theorem dX5_topUp_70 : decode cX5_topUp 70 = .ok (.iload_n 1, 1) := by decide +kernel
theorem dX5_topUp_71 : decode cX5_topUp 71 = .ok (.iaload, 1) := by decide +kernel
theorem dX5_topUp_72 : decode cX5_topUp 72 = .ok (.iload_n 3, 1) := by decide +kernel
theorem dX5_topUp_73 : decode cX5_topUp 73 = .ok (.iadd, 1) := by decide +kernel
theorem dX5_topUp_74 : decode cX5_topUp 74 = .ok (.ldc 96, 2) := by decide +kernel
theorem dX5_topUp_76 : decode cX5_topUp 76 = .ok (.if_icmp .le 7, 3) := by decide +kernel
theorem dX5_topUp_79 : decode cX5_topUp 79 = .ok (.iconst 3, 1) := by decide +kernel
theorem dX5_topUp_80 : decode cX5_topUp 80 = .ok (.goto 4, 3) := by decide +kernel
theorem dX5_topUp_83 : decode cX5_topUp 83 = .ok (.iconst 0, 1) := by decide +kernel
theorem dX5_topUp_84 : decode cX5_topUp 84 = .ok (.putfield 78, 3) := by decide +kernel
theorem dX5_topUp_87 : decode cX5_topUp 87 = .ok (.aload_n 0, 1) := by decide +kernel
theorem dX5_topUp_88 : decode cX5_topUp 88 = .ok (.getfield 78, 3) := by decide +kernel
theorem dX5_topUp_91 : decode cX5_topUp 91 = .ok (.ifCond .le 5, 3) := by decide +kernel
theorem dX5_topUp_94 : decode cX5_topUp 94 = .ok (.iconst 0, 1) := by decide +kernel
theorem dX5_topUp_95 : decode cX5_topUp 95 = .ok (.ireturn, 1) := by decide +kernel
theorem dX5_topUp_96 : decode cX5_topUp 96 = .ok (.aload_n 0, 1) := by decide +kernel
theorem dX5_topUp_97 : decode cX5_topUp 97 = .ok (.getfield 39, 3) := by decide +kernel
theorem dX5_topUp_100 : decode cX5_topUp 100 = .ok (.iload_n 1, 1) := by decide +kernel
theorem dX5_topUp_101 : decode cX5_topUp 101 = .ok (.dup2, 1) := by decide +kernel
theorem dX5_topUp_102 : decode cX5_topUp 102 = .ok (.iaload, 1) := by decide +kernel
theorem dX5_topUp_103 : decode cX5_topUp 103 = .ok (.iload_n 2, 1) := by decide +kernel
theorem dX5_topUp_104 : decode cX5_topUp 104 = .ok (.iadd, 1) := by decide +kernel
theorem dX5_topUp_105 : decode cX5_topUp 105 = .ok (.iastore, 1) := by decide +kernel
theorem dX5_topUp_106 : decode cX5_topUp 106 = .ok (.aload_n 0, 1) := by decide +kernel
theorem dX5_topUp_107 : decode cX5_topUp 107 = .ok (.getfield 42, 3) := by decide +kernel
theorem dX5_topUp_110 : decode cX5_topUp 110 = .ok (.iload_n 1, 1) := by decide +kernel
theorem dX5_topUp_111 : decode cX5_topUp 111 = .ok (.dup2, 1) := by decide +kernel
theorem dX5_topUp_112 : decode cX5_topUp 112 = .ok (.iaload, 1) := by decide +kernel
theorem dX5_topUp_113 : decode cX5_topUp 113 = .ok (.iload_n 3, 1) := by decide +kernel
theorem dX5_topUp_114 : decode cX5_topUp 114 = .ok (.iadd, 1) := by decide +kernel
theorem dX5_topUp_115 : decode cX5_topUp 115 = .ok (.iastore, 1) := by decide +kernel
theorem dX5_topUp_116 : decode cX5_topUp 116 = .ok (.aload_n 0, 1) := by decide +kernel
theorem dX5_topUp_117 : decode cX5_topUp 117 = .ok (.getfield 39, 3) := by decide +kernel
theorem dX5_topUp_120 : decode cX5_topUp 120 = .ok (.iload_n 1, 1) := by decide +kernel
theorem dX5_topUp_121 : decode cX5_topUp 121 = .ok (.iaload, 1) := by decide +kernel
theorem dX5_topUp_122 : decode cX5_topUp 122 = .ok (.ireturn, 1) := by decide +kernel
theorem dX5_balance_0 : decode cX5_balance 0 = .ok (.aload_n 0, 1) := by decide +kernel
theorem dX5_balance_1 : decode cX5_balance 1 = .ok (.aload_n 0, 1) := by decide +kernel
theorem dX5_balance_2 : decode cX5_balance 2 = .ok (.iload_n 1, 1) := by decide +kernel
theorem dX5_balance_3 : decode cX5_balance 3 = .ok (.invokevirtual 101, 3) := by decide +kernel
theorem dX5_balance_6 : decode cX5_balance 6 = .ok (.ifCond .eq 7, 3) := by decide +kernel
theorem dX5_balance_9 : decode cX5_balance 9 = .ok (.iconst 0, 1) := by decide +kernel
theorem dX5_balance_10 : decode cX5_balance 10 = .ok (.goto 4, 3) := by decide +kernel
theorem dX5_balance_13 : decode cX5_balance 13 = .ok (.iconst 1, 1) := by decide +kernel
theorem dX5_balance_14 : decode cX5_balance 14 = .ok (.putfield 78, 3) := by decide +kernel
theorem dX5_balance_17 : decode cX5_balance 17 = .ok (.aload_n 0, 1) := by decide +kernel
theorem dX5_balance_18 : decode cX5_balance 18 = .ok (.getfield 78, 3) := by decide +kernel
theorem dX5_balance_21 : decode cX5_balance 21 = .ok (.ifCond .le 7, 3) := by decide +kernel
theorem dX5_balance_24 : decode cX5_balance 24 = .ok (.iconst 0, 1) := by decide +kernel
theorem dX5_balance_25 : decode cX5_balance 25 = .ok (.goto 9, 3) := by decide +kernel
theorem dX5_balance_28 : decode cX5_balance 28 = .ok (.aload_n 0, 1) := by decide +kernel
theorem dX5_balance_29 : decode cX5_balance 29 = .ok (.getfield 39, 3) := by decide +kernel
theorem dX5_balance_32 : decode cX5_balance 32 = .ok (.iload_n 1, 1) := by decide +kernel
theorem dX5_balance_33 : decode cX5_balance 33 = .ok (.iaload, 1) := by decide +kernel
theorem dX5_balance_34 : decode cX5_balance 34 = .ok (.ireturn, 1) := by decide +kernel
theorem dX5_bundle_0 : decode cX5_bundle 0 = .ok (.aload_n 0, 1) := by decide +kernel
theorem dX5_bundle_1 : decode cX5_bundle 1 = .ok (.aload_n 0, 1) := by decide +kernel
theorem dX5_bundle_2 : decode cX5_bundle 2 = .ok (.iload_n 1, 1) := by decide +kernel
theorem dX5_bundle_3 : decode cX5_bundle 3 = .ok (.invokevirtual 101, 3) := by decide +kernel
theorem dX5_bundle_6 : decode cX5_bundle 6 = .ok (.ifCond .eq 7, 3) := by decide +kernel
theorem dX5_bundle_9 : decode cX5_bundle 9 = .ok (.iconst 0, 1) := by decide +kernel
theorem dX5_bundle_10 : decode cX5_bundle 10 = .ok (.goto 4, 3) := by decide +kernel
theorem dX5_bundle_13 : decode cX5_bundle 13 = .ok (.iconst 1, 1) := by decide +kernel
theorem dX5_bundle_14 : decode cX5_bundle 14 = .ok (.putfield 78, 3) := by decide +kernel
theorem dX5_bundle_17 : decode cX5_bundle 17 = .ok (.aload_n 0, 1) := by decide +kernel
theorem dX5_bundle_18 : decode cX5_bundle 18 = .ok (.getfield 78, 3) := by decide +kernel
theorem dX5_bundle_21 : decode cX5_bundle 21 = .ok (.ifCond .le 7, 3) := by decide +kernel
theorem dX5_bundle_24 : decode cX5_bundle 24 = .ok (.iconst 0, 1) := by decide +kernel
theorem dX5_bundle_25 : decode cX5_bundle 25 = .ok (.goto 9, 3) := by decide +kernel
theorem dX5_bundle_28 : decode cX5_bundle 28 = .ok (.aload_n 0, 1) := by decide +kernel
theorem dX5_bundle_29 : decode cX5_bundle 29 = .ok (.getfield 42, 3) := by decide +kernel
theorem dX5_bundle_32 : decode cX5_bundle 32 = .ok (.iload_n 1, 1) := by decide +kernel
theorem dX5_bundle_33 : decode cX5_bundle 33 = .ok (.iaload, 1) := by decide +kernel
theorem dX5_bundle_34 : decode cX5_bundle 34 = .ok (.ireturn, 1) := by decide +kernel
theorem dX5_debtOf_0 : decode cX5_debtOf 0 = .ok (.iconst 5, 1) := by decide +kernel
theorem dX5_debtOf_1 : decode cX5_debtOf 1 = .ok (.iload_n 1, 1) := by decide +kernel
theorem dX5_debtOf_2 : decode cX5_debtOf 2 = .ok (.imul, 1) := by decide +kernel
theorem dX5_debtOf_3 : decode cX5_debtOf 3 = .ok (.iload_n 2, 1) := by decide +kernel
theorem dX5_debtOf_4 : decode cX5_debtOf 4 = .ok (.iadd, 1) := by decide +kernel
theorem dX5_debtOf_5 : decode cX5_debtOf 5 = .ok (.istore_n 3, 1) := by decide +kernel
theorem dX5_debtOf_6 : decode cX5_debtOf 6 = .ok (.iconst 5, 1) := by decide +kernel
theorem dX5_debtOf_7 : decode cX5_debtOf 7 = .ok (.iload_n 2, 1) := by decide +kernel
theorem dX5_debtOf_8 : decode cX5_debtOf 8 = .ok (.imul, 1) := by decide +kernel
theorem dX5_debtOf_9 : decode cX5_debtOf 9 = .ok (.iload_n 1, 1) := by decide +kernel
theorem dX5_debtOf_10 : decode cX5_debtOf 10 = .ok (.iadd, 1) := by decide +kernel
theorem dX5_debtOf_11 : decode cX5_debtOf 11 = .ok (.istore 4, 2) := by decide +kernel
theorem dX5_debtOf_13 : decode cX5_debtOf 13 = .ok (.aload_n 0, 1) := by decide +kernel
theorem dX5_debtOf_14 : decode cX5_debtOf 14 = .ok (.getfield 26, 3) := by decide +kernel
theorem dX5_debtOf_17 : decode cX5_debtOf 17 = .ok (.iload_n 3, 1) := by decide +kernel
theorem dX5_debtOf_18 : decode cX5_debtOf 18 = .ok (.laload, 1) := by decide +kernel
theorem dX5_debtOf_19 : decode cX5_debtOf 19 = .ok (.aload_n 0, 1) := by decide +kernel
theorem dX5_debtOf_20 : decode cX5_debtOf 20 = .ok (.getfield 30, 3) := by decide +kernel
theorem dX5_debtOf_23 : decode cX5_debtOf 23 = .ok (.iload_n 3, 1) := by decide +kernel
theorem dX5_debtOf_24 : decode cX5_debtOf 24 = .ok (.laload, 1) := by decide +kernel
theorem dX5_debtOf_25 : decode cX5_debtOf 25 = .ok (.lsub, 1) := by decide +kernel
theorem dX5_debtOf_26 : decode cX5_debtOf 26 = .ok (.aload_n 0, 1) := by decide +kernel
theorem dX5_debtOf_27 : decode cX5_debtOf 27 = .ok (.getfield 26, 3) := by decide +kernel
theorem dX5_debtOf_30 : decode cX5_debtOf 30 = .ok (.iload 4, 2) := by decide +kernel
theorem dX5_debtOf_32 : decode cX5_debtOf 32 = .ok (.laload, 1) := by decide +kernel
theorem dX5_debtOf_33 : decode cX5_debtOf 33 = .ok (.lsub, 1) := by decide +kernel
theorem dX5_debtOf_34 : decode cX5_debtOf 34 = .ok (.aload_n 0, 1) := by decide +kernel
theorem dX5_debtOf_35 : decode cX5_debtOf 35 = .ok (.getfield 30, 3) := by decide +kernel
theorem dX5_debtOf_38 : decode cX5_debtOf 38 = .ok (.iload 4, 2) := by decide +kernel
theorem dX5_debtOf_40 : decode cX5_debtOf 40 = .ok (.laload, 1) := by decide +kernel
theorem dX5_debtOf_41 : decode cX5_debtOf 41 = .ok (.ladd, 1) := by decide +kernel
theorem dX5_debtOf_42 : decode cX5_debtOf 42 = .ok (.lreturn, 1) := by decide +kernel
theorem dX5_isShut_0 : decode cX5_isShut 0 = .ok (.iconst 5, 1) := by decide +kernel
theorem dX5_isShut_1 : decode cX5_isShut 1 = .ok (.iload_n 1, 1) := by decide +kernel
theorem dX5_isShut_2 : decode cX5_isShut 2 = .ok (.imul, 1) := by decide +kernel
theorem dX5_isShut_3 : decode cX5_isShut 3 = .ok (.iload_n 2, 1) := by decide +kernel
theorem dX5_isShut_4 : decode cX5_isShut 4 = .ok (.iadd, 1) := by decide +kernel
theorem dX5_isShut_5 : decode cX5_isShut 5 = .ok (.istore_n 3, 1) := by decide +kernel
theorem dX5_isShut_6 : decode cX5_isShut 6 = .ok (.aload_n 0, 1) := by decide +kernel
theorem dX5_isShut_7 : decode cX5_isShut 7 = .ok (.getfield 16, 3) := by decide +kernel
theorem dX5_isShut_10 : decode cX5_isShut 10 = .ok (.iload_n 3, 1) := by decide +kernel
theorem dX5_isShut_11 : decode cX5_isShut 11 = .ok (.baload, 1) := by decide +kernel
theorem dX5_isShut_12 : decode cX5_isShut 12 = .ok (.ifCond .eq 28, 3) := by decide +kernel
theorem dX5_isShut_15 : decode cX5_isShut 15 = .ok (.aload_n 0, 1) := by decide +kernel
theorem dX5_isShut_16 : decode cX5_isShut 16 = .ok (.iload_n 1, 1) := by decide +kernel
theorem dX5_isShut_17 : decode cX5_isShut 17 = .ok (.iload_n 2, 1) := by decide +kernel
theorem dX5_isShut_18 : decode cX5_isShut 18 = .ok (.invokevirtual 109, 3) := by decide +kernel
theorem dX5_isShut_21 : decode cX5_isShut 21 = .ok (.aload_n 0, 1) := by decide +kernel
theorem dX5_isShut_22 : decode cX5_isShut 22 = .ok (.getfield 20, 3) := by decide +kernel
theorem dX5_isShut_25 : decode cX5_isShut 25 = .ok (.iload_n 3, 1) := by decide +kernel
theorem dX5_isShut_26 : decode cX5_isShut 26 = .ok (.iaload, 1) := by decide +kernel
theorem dX5_isShut_27 : decode cX5_isShut 27 = .ok (.i2l, 1) := by decide +kernel
theorem dX5_isShut_28 : decode cX5_isShut 28 = .ok (.ladd, 1) := by decide +kernel
theorem dX5_isShut_29 : decode cX5_isShut 29 = .ok (.aload_n 0, 1) := by decide +kernel
theorem dX5_isShut_30 : decode cX5_isShut 30 = .ok (.getfield 23, 3) := by decide +kernel
theorem dX5_isShut_33 : decode cX5_isShut 33 = .ok (.iload_n 3, 1) := by decide +kernel
theorem dX5_isShut_34 : decode cX5_isShut 34 = .ok (.iaload, 1) := by decide +kernel
theorem dX5_isShut_35 : decode cX5_isShut 35 = .ok (.i2l, 1) := by decide +kernel
theorem dX5_isShut_36 : decode cX5_isShut 36 = .ok (.lcmp, 1) := by decide +kernel
theorem dX5_isShut_37 : decode cX5_isShut 37 = .ok (.ifCond .le 7, 3) := by decide +kernel
theorem dX5_isShut_40 : decode cX5_isShut 40 = .ok (.iconst 1, 1) := by decide +kernel
theorem dX5_isShut_41 : decode cX5_isShut 41 = .ok (.goto 4, 3) := by decide +kernel
theorem dX5_isShut_44 : decode cX5_isShut 44 = .ok (.iconst 0, 1) := by decide +kernel
theorem dX5_isShut_45 : decode cX5_isShut 45 = .ok (.ireturn, 1) := by decide +kernel
theorem dX5_canGo_0 : decode cX5_canGo 0 = .ok (.aload_n 0, 1) := by decide +kernel
theorem dX5_canGo_1 : decode cX5_canGo 1 = .ok (.getfield 75, 3) := by decide +kernel
theorem dX5_canGo_4 : decode cX5_canGo 4 = .ok (.iload_n 1, 1) := by decide +kernel
theorem dX5_canGo_5 : decode cX5_canGo 5 = .ok (.iconst 1, 1) := by decide +kernel
theorem dX5_canGo_6 : decode cX5_canGo 6 = .ok (.isub, 1) := by decide +kernel
theorem dX5_canGo_7 : decode cX5_canGo 7 = .ok (.iaload, 1) := by decide +kernel
theorem dX5_canGo_8 : decode cX5_canGo 8 = .ok (.istore_n 2, 1) := by decide +kernel
theorem dX5_canGo_9 : decode cX5_canGo 9 = .ok (.iload_n 1, 1) := by decide +kernel
theorem dX5_canGo_10 : decode cX5_canGo 10 = .ok (.iconst 1, 1) := by decide +kernel
theorem dX5_canGo_11 : decode cX5_canGo 11 = .ok (.if_icmp .eq 19, 3) := by decide +kernel
theorem dX5_canGo_14 : decode cX5_canGo 14 = .ok (.aload_n 0, 1) := by decide +kernel
theorem dX5_canGo_15 : decode cX5_canGo 15 = .ok (.aload_n 0, 1) := by decide +kernel
theorem dX5_canGo_16 : decode cX5_canGo 16 = .ok (.getfield 75, 3) := by decide +kernel
theorem dX5_canGo_19 : decode cX5_canGo 19 = .ok (.iload_n 1, 1) := by decide +kernel
theorem dX5_canGo_20 : decode cX5_canGo 20 = .ok (.iconst 2, 1) := by decide +kernel
theorem dX5_canGo_21 : decode cX5_canGo 21 = .ok (.isub, 1) := by decide +kernel
theorem dX5_canGo_22 : decode cX5_canGo 22 = .ok (.iaload, 1) := by decide +kernel
theorem dX5_canGo_23 : decode cX5_canGo 23 = .ok (.iload_n 2, 1) := by decide +kernel
theorem dX5_canGo_24 : decode cX5_canGo 24 = .ok (.invokevirtual 113, 3) := by decide +kernel
theorem dX5_canGo_27 : decode cX5_canGo 27 = .ok (.ifCond .ne 7, 3) := by decide +kernel
theorem dX5_canGo_30 : decode cX5_canGo 30 = .ok (.iconst 1, 1) := by decide +kernel
theorem dX5_canGo_31 : decode cX5_canGo 31 = .ok (.goto 4, 3) := by decide +kernel
theorem dX5_canGo_34 : decode cX5_canGo 34 = .ok (.iconst 0, 1) := by decide +kernel
theorem dX5_canGo_35 : decode cX5_canGo 35 = .ok (.istore_n 3, 1) := by decide +kernel
theorem dX5_canGo_36 : decode cX5_canGo 36 = .ok (.iconst 0, 1) := by decide +kernel
theorem dX5_canGo_37 : decode cX5_canGo 37 = .ok (.istore 4, 2) := by decide +kernel
theorem dX5_canGo_39 : decode cX5_canGo 39 = .ok (.iload 4, 2) := by decide +kernel
theorem dX5_canGo_41 : decode cX5_canGo 41 = .ok (.iload_n 1, 1) := by decide +kernel
theorem dX5_canGo_42 : decode cX5_canGo 42 = .ok (.iconst 1, 1) := by decide +kernel
theorem dX5_canGo_43 : decode cX5_canGo 43 = .ok (.isub, 1) := by decide +kernel
theorem dX5_canGo_44 : decode cX5_canGo 44 = .ok (.if_icmp .ge 30, 3) := by decide +kernel
theorem dX5_canGo_47 : decode cX5_canGo 47 = .ok (.iload_n 3, 1) := by decide +kernel
theorem dX5_canGo_48 : decode cX5_canGo 48 = .ok (.ifCond .eq 18, 3) := by decide +kernel
theorem dX5_canGo_51 : decode cX5_canGo 51 = .ok (.aload_n 0, 1) := by decide +kernel
theorem dX5_canGo_52 : decode cX5_canGo 52 = .ok (.getfield 75, 3) := by decide +kernel
theorem dX5_canGo_55 : decode cX5_canGo 55 = .ok (.iload 4, 2) := by decide +kernel
theorem dX5_canGo_57 : decode cX5_canGo 57 = .ok (.iaload, 1) := by decide +kernel
theorem dX5_canGo_58 : decode cX5_canGo 58 = .ok (.iload_n 2, 1) := by decide +kernel
theorem dX5_canGo_59 : decode cX5_canGo 59 = .ok (.if_icmp .eq 7, 3) := by decide +kernel
theorem dX5_canGo_62 : decode cX5_canGo 62 = .ok (.iconst 1, 1) := by decide +kernel
theorem dX5_canGo_63 : decode cX5_canGo 63 = .ok (.goto 4, 3) := by decide +kernel
theorem dX5_canGo_66 : decode cX5_canGo 66 = .ok (.iconst 0, 1) := by decide +kernel
theorem dX5_canGo_67 : decode cX5_canGo 67 = .ok (.istore_n 3, 1) := by decide +kernel
theorem dX5_canGo_68 : decode cX5_canGo 68 = .ok (.iinc 4 1, 3) := by decide +kernel
theorem dX5_canGo_71 : decode cX5_canGo 71 = .ok (.goto (-32), 3) := by decide +kernel
theorem dX5_canGo_74 : decode cX5_canGo 74 = .ok (.iload_n 3, 1) := by decide +kernel
theorem dX5_canGo_75 : decode cX5_canGo 75 = .ok (.ireturn, 1) := by decide +kernel
theorem dX5_costOf_0 : decode cX5_costOf 0 = .ok (.iconst 0, 1) := by decide +kernel
theorem dX5_costOf_1 : decode cX5_costOf 1 = .ok (.istore_n 2, 1) := by decide +kernel
theorem dX5_costOf_2 : decode cX5_costOf 2 = .ok (.iconst 1, 1) := by decide +kernel
theorem dX5_costOf_3 : decode cX5_costOf 3 = .ok (.istore_n 3, 1) := by decide +kernel
theorem dX5_costOf_4 : decode cX5_costOf 4 = .ok (.iload_n 3, 1) := by decide +kernel
theorem dX5_costOf_5 : decode cX5_costOf 5 = .ok (.iload_n 1, 1) := by decide +kernel
theorem dX5_costOf_6 : decode cX5_costOf 6 = .ok (.if_icmp .ge 34, 3) := by decide +kernel
theorem dX5_costOf_9 : decode cX5_costOf 9 = .ok (.iload_n 2, 1) := by decide +kernel
theorem dX5_costOf_10 : decode cX5_costOf 10 = .ok (.aload_n 0, 1) := by decide +kernel
theorem dX5_costOf_11 : decode cX5_costOf 11 = .ok (.getfield 20, 3) := by decide +kernel
theorem dX5_costOf_14 : decode cX5_costOf 14 = .ok (.iconst 5, 1) := by decide +kernel
theorem dX5_costOf_15 : decode cX5_costOf 15 = .ok (.aload_n 0, 1) := by decide +kernel
theorem dX5_costOf_16 : decode cX5_costOf 16 = .ok (.getfield 75, 3) := by decide +kernel
theorem dX5_costOf_19 : decode cX5_costOf 19 = .ok (.iload_n 3, 1) := by decide +kernel
theorem dX5_costOf_20 : decode cX5_costOf 20 = .ok (.iconst 1, 1) := by decide +kernel
theorem dX5_costOf_21 : decode cX5_costOf 21 = .ok (.isub, 1) := by decide +kernel
theorem dX5_costOf_22 : decode cX5_costOf 22 = .ok (.iaload, 1) := by decide +kernel
theorem dX5_costOf_23 : decode cX5_costOf 23 = .ok (.imul, 1) := by decide +kernel
theorem dX5_costOf_24 : decode cX5_costOf 24 = .ok (.aload_n 0, 1) := by decide +kernel
theorem dX5_costOf_25 : decode cX5_costOf 25 = .ok (.getfield 75, 3) := by decide +kernel
theorem dX5_costOf_28 : decode cX5_costOf 28 = .ok (.iload_n 3, 1) := by decide +kernel
theorem dX5_costOf_29 : decode cX5_costOf 29 = .ok (.iaload, 1) := by decide +kernel
theorem dX5_costOf_30 : decode cX5_costOf 30 = .ok (.iadd, 1) := by decide +kernel
theorem dX5_costOf_31 : decode cX5_costOf 31 = .ok (.iaload, 1) := by decide +kernel
theorem dX5_costOf_32 : decode cX5_costOf 32 = .ok (.iadd, 1) := by decide +kernel
theorem dX5_costOf_33 : decode cX5_costOf 33 = .ok (.istore_n 2, 1) := by decide +kernel
theorem dX5_costOf_34 : decode cX5_costOf 34 = .ok (.iinc 3 1, 3) := by decide +kernel
theorem dX5_costOf_37 : decode cX5_costOf 37 = .ok (.goto (-33), 3) := by decide +kernel
theorem dX5_costOf_40 : decode cX5_costOf 40 = .ok (.iload_n 2, 1) := by decide +kernel
theorem dX5_costOf_41 : decode cX5_costOf 41 = .ok (.ireturn, 1) := by decide +kernel
theorem dX5_finds_0 : decode cX5_finds 0 = .ok (.aload_n 0, 1) := by decide +kernel
theorem dX5_finds_1 : decode cX5_finds 1 = .ok (.iconst 0, 1) := by decide +kernel
theorem dX5_finds_2 : decode cX5_finds 2 = .ok (.putfield 116, 3) := by decide +kernel
theorem dX5_finds_5 : decode cX5_finds 5 = .ok (.aload_n 0, 1) := by decide +kernel
theorem dX5_finds_6 : decode cX5_finds 6 = .ok (.getfield 75, 3) := by decide +kernel
theorem dX5_finds_9 : decode cX5_finds 9 = .ok (.iconst 0, 1) := by decide +kernel
theorem dX5_finds_10 : decode cX5_finds 10 = .ok (.iload_n 1, 1) := by decide +kernel
theorem dX5_finds_11 : decode cX5_finds 11 = .ok (.iastore, 1) := by decide +kernel
theorem dX5_finds_12 : decode cX5_finds 12 = .ok (.iconst 1, 1) := by decide +kernel
theorem dX5_finds_13 : decode cX5_finds 13 = .ok (.istore_n 3, 1) := by decide +kernel
theorem dX5_finds_14 : decode cX5_finds 14 = .ok (.iconst 1, 1) := by decide +kernel
theorem dX5_finds_15 : decode cX5_finds 15 = .ok (.istore 4, 2) := by decide +kernel
theorem dX5_finds_17 : decode cX5_finds 17 = .ok (.iload_n 3, 1) := by decide +kernel
theorem dX5_finds_18 : decode cX5_finds 18 = .ok (.ifCond .le 190, 3) := by decide +kernel
theorem dX5_finds_21 : decode cX5_finds 21 = .ok (.iload 4, 2) := by decide +kernel
theorem dX5_finds_23 : decode cX5_finds 23 = .ok (.ifCond .eq 98, 3) := by decide +kernel
theorem dX5_finds_26 : decode cX5_finds 26 = .ok (.aload_n 0, 1) := by decide +kernel
theorem dX5_finds_27 : decode cX5_finds 27 = .ok (.getfield 75, 3) := by decide +kernel
theorem dX5_finds_30 : decode cX5_finds 30 = .ok (.iload_n 3, 1) := by decide +kernel
theorem dX5_finds_31 : decode cX5_finds 31 = .ok (.iconst 1, 1) := by decide +kernel
theorem dX5_finds_32 : decode cX5_finds 32 = .ok (.isub, 1) := by decide +kernel
theorem dX5_finds_33 : decode cX5_finds 33 = .ok (.iaload, 1) := by decide +kernel
theorem dX5_finds_34 : decode cX5_finds 34 = .ok (.iload_n 2, 1) := by decide +kernel
theorem dX5_finds_35 : decode cX5_finds 35 = .ok (.if_icmp .ne 86, 3) := by decide +kernel
theorem dX5_finds_38 : decode cX5_finds 38 = .ok (.aload_n 0, 1) := by decide +kernel
theorem dX5_finds_39 : decode cX5_finds 39 = .ok (.iload_n 3, 1) := by decide +kernel
theorem dX5_finds_40 : decode cX5_finds 40 = .ok (.invokevirtual 119, 3) := by decide +kernel
theorem dX5_finds_43 : decode cX5_finds 43 = .ok (.istore 5, 2) := by decide +kernel
theorem dX5_finds_45 : decode cX5_finds 45 = .ok (.aload_n 0, 1) := by decide +kernel
theorem dX5_finds_46 : decode cX5_finds 46 = .ok (.getfield 116, 3) := by decide +kernel
theorem dX5_finds_49 : decode cX5_finds 49 = .ok (.ifCond .eq 29, 3) := by decide +kernel
theorem dX5_finds_52 : decode cX5_finds 52 = .ok (.iload 5, 2) := by decide +kernel
theorem dX5_finds_54 : decode cX5_finds 54 = .ok (.aload_n 0, 1) := by decide +kernel
theorem dX5_finds_55 : decode cX5_finds 55 = .ok (.getfield 122, 3) := by decide +kernel
theorem dX5_finds_58 : decode cX5_finds 58 = .ok (.if_icmp .lt 20, 3) := by decide +kernel
theorem dX5_finds_61 : decode cX5_finds 61 = .ok (.iload 5, 2) := by decide +kernel
theorem dX5_finds_63 : decode cX5_finds 63 = .ok (.aload_n 0, 1) := by decide +kernel
theorem dX5_finds_64 : decode cX5_finds 64 = .ok (.getfield 122, 3) := by decide +kernel
theorem dX5_finds_67 : decode cX5_finds 67 = .ok (.if_icmp .ne 51, 3) := by decide +kernel
theorem dX5_finds_70 : decode cX5_finds 70 = .ok (.iload_n 3, 1) := by decide +kernel
theorem dX5_finds_71 : decode cX5_finds 71 = .ok (.aload_n 0, 1) := by decide +kernel
theorem dX5_finds_72 : decode cX5_finds 72 = .ok (.getfield 116, 3) := by decide +kernel
theorem dX5_finds_75 : decode cX5_finds 75 = .ok (.if_icmp .ge 43, 3) := by decide +kernel
theorem dX5_finds_78 : decode cX5_finds 78 = .ok (.aload_n 0, 1) := by decide +kernel
theorem dX5_finds_79 : decode cX5_finds 79 = .ok (.iload_n 3, 1) := by decide +kernel
theorem dX5_finds_80 : decode cX5_finds 80 = .ok (.putfield 116, 3) := by decide +kernel
theorem dX5_finds_83 : decode cX5_finds 83 = .ok (.aload_n 0, 1) := by decide +kernel
theorem dX5_finds_84 : decode cX5_finds 84 = .ok (.iload 5, 2) := by decide +kernel
theorem dX5_finds_86 : decode cX5_finds 86 = .ok (.putfield 122, 3) := by decide +kernel
theorem dX5_finds_89 : decode cX5_finds 89 = .ok (.iconst 0, 1) := by decide +kernel
theorem dX5_finds_90 : decode cX5_finds 90 = .ok (.istore 6, 2) := by decide +kernel
theorem dX5_finds_92 : decode cX5_finds 92 = .ok (.iload 6, 2) := by decide +kernel
theorem dX5_finds_94 : decode cX5_finds 94 = .ok (.iload_n 3, 1) := by decide +kernel
theorem dX5_finds_95 : decode cX5_finds 95 = .ok (.if_icmp .ge 23, 3) := by decide +kernel
theorem dX5_finds_98 : decode cX5_finds 98 = .ok (.aload_n 0, 1) := by decide +kernel
theorem dX5_finds_99 : decode cX5_finds 99 = .ok (.getfield 72, 3) := by decide +kernel
theorem dX5_finds_102 : decode cX5_finds 102 = .ok (.iload 6, 2) := by decide +kernel
theorem dX5_finds_104 : decode cX5_finds 104 = .ok (.aload_n 0, 1) := by decide +kernel
theorem dX5_finds_105 : decode cX5_finds 105 = .ok (.getfield 75, 3) := by decide +kernel
theorem dX5_finds_108 : decode cX5_finds 108 = .ok (.iload 6, 2) := by decide +kernel
theorem dX5_finds_110 : decode cX5_finds 110 = .ok (.iaload, 1) := by decide +kernel
theorem dX5_finds_111 : decode cX5_finds 111 = .ok (.iastore, 1) := by decide +kernel
theorem dX5_finds_112 : decode cX5_finds 112 = .ok (.iinc 6 1, 3) := by decide +kernel
theorem dX5_finds_115 : decode cX5_finds 115 = .ok (.goto (-23), 3) := by decide +kernel
theorem dX5_finds_118 : decode cX5_finds 118 = .ok (.iconst 0, 1) := by decide +kernel
theorem dX5_finds_119 : decode cX5_finds 119 = .ok (.istore 4, 2) := by decide +kernel
theorem dX5_finds_121 : decode cX5_finds 121 = .ok (.iload 4, 2) := by decide +kernel
theorem dX5_finds_123 : decode cX5_finds 123 = .ok (.ifCond .eq 18, 3) := by decide +kernel
theorem dX5_finds_126 : decode cX5_finds 126 = .ok (.iload_n 3, 1) := by decide +kernel
theorem dX5_finds_127 : decode cX5_finds 127 = .ok (.iconst 5, 1) := by decide +kernel
theorem dX5_finds_128 : decode cX5_finds 128 = .ok (.if_icmp .ge 13, 3) := by decide +kernel
theorem dX5_finds_131 : decode cX5_finds 131 = .ok (.aload_n 0, 1) := by decide +kernel
theorem dX5_finds_132 : decode cX5_finds 132 = .ok (.getfield 75, 3) := by decide +kernel
theorem dX5_finds_135 : decode cX5_finds 135 = .ok (.iload_n 3, 1) := by decide +kernel
theorem dX5_finds_136 : decode cX5_finds 136 = .ok (.iconst (-1), 1) := by decide +kernel
theorem dX5_finds_137 : decode cX5_finds 137 = .ok (.iastore, 1) := by decide +kernel
theorem dX5_finds_138 : decode cX5_finds 138 = .ok (.iinc 3 1, 3) := by decide +kernel
theorem dX5_finds_141 : decode cX5_finds 141 = .ok (.iconst 0, 1) := by decide +kernel
theorem dX5_finds_142 : decode cX5_finds 142 = .ok (.istore 4, 2) := by decide +kernel
theorem dX5_finds_144 : decode cX5_finds 144 = .ok (.iload_n 3, 1) := by decide +kernel
theorem dX5_finds_145 : decode cX5_finds 145 = .ok (.iconst 1, 1) := by decide +kernel
theorem dX5_finds_146 : decode cX5_finds 146 = .ok (.if_icmp .le 48, 3) := by decide +kernel
theorem dX5_finds_149 : decode cX5_finds 149 = .ok (.iload 4, 2) := by decide +kernel
theorem dX5_finds_151 : decode cX5_finds 151 = .ok (.ifCond .ne 43, 3) := by decide +kernel
theorem dX5_finds_154 : decode cX5_finds 154 = .ok (.aload_n 0, 1) := by decide +kernel
theorem dX5_finds_155 : decode cX5_finds 155 = .ok (.getfield 75, 3) := by decide +kernel
theorem dX5_finds_158 : decode cX5_finds 158 = .ok (.iload_n 3, 1) := by decide +kernel
theorem dX5_finds_159 : decode cX5_finds 159 = .ok (.iconst 1, 1) := by decide +kernel
theorem dX5_finds_160 : decode cX5_finds 160 = .ok (.isub, 1) := by decide +kernel
theorem dX5_finds_161 : decode cX5_finds 161 = .ok (.dup2, 1) := by decide +kernel
theorem dX5_finds_162 : decode cX5_finds 162 = .ok (.iaload, 1) := by decide +kernel
theorem dX5_finds_163 : decode cX5_finds 163 = .ok (.iconst 1, 1) := by decide +kernel
theorem dX5_finds_164 : decode cX5_finds 164 = .ok (.iadd, 1) := by decide +kernel
theorem dX5_finds_165 : decode cX5_finds 165 = .ok (.iastore, 1) := by decide +kernel
theorem dX5_finds_166 : decode cX5_finds 166 = .ok (.aload_n 0, 1) := by decide +kernel
theorem dX5_finds_167 : decode cX5_finds 167 = .ok (.getfield 75, 3) := by decide +kernel
theorem dX5_finds_170 : decode cX5_finds 170 = .ok (.iload_n 3, 1) := by decide +kernel
theorem dX5_finds_171 : decode cX5_finds 171 = .ok (.iconst 1, 1) := by decide +kernel
theorem dX5_finds_172 : decode cX5_finds 172 = .ok (.isub, 1) := by decide +kernel
theorem dX5_finds_173 : decode cX5_finds 173 = .ok (.iaload, 1) := by decide +kernel
theorem dX5_finds_174 : decode cX5_finds 174 = .ok (.iconst 5, 1) := by decide +kernel
theorem dX5_finds_175 : decode cX5_finds 175 = .ok (.if_icmp .ne 9, 3) := by decide +kernel
theorem dX5_finds_178 : decode cX5_finds 178 = .ok (.iinc 3 (-1), 3) := by decide +kernel
theorem dX5_finds_181 : decode cX5_finds 181 = .ok (.goto (-37), 3) := by decide +kernel
theorem dX5_finds_184 : decode cX5_finds 184 = .ok (.aload_n 0, 1) := by decide +kernel
theorem dX5_finds_185 : decode cX5_finds 185 = .ok (.iload_n 3, 1) := by decide +kernel
theorem dX5_finds_186 : decode cX5_finds 186 = .ok (.invokevirtual 125, 3) := by decide +kernel
theorem dX5_finds_189 : decode cX5_finds 189 = .ok (.istore 4, 2) := by decide +kernel
theorem dX5_finds_191 : decode cX5_finds 191 = .ok (.goto (-47), 3) := by decide +kernel
theorem dX5_finds_194 : decode cX5_finds 194 = .ok (.iload 4, 2) := by decide +kernel
theorem dX5_finds_196 : decode cX5_finds 196 = .ok (.ifCond .eq 7, 3) := by decide +kernel
theorem dX5_finds_199 : decode cX5_finds 199 = .ok (.iload_n 3, 1) := by decide +kernel
theorem dX5_finds_200 : decode cX5_finds 200 = .ok (.goto 4, 3) := by decide +kernel
theorem dX5_finds_203 : decode cX5_finds 203 = .ok (.iconst 0, 1) := by decide +kernel
theorem dX5_finds_204 : decode cX5_finds 204 = .ok (.istore_n 3, 1) := by decide +kernel
theorem dX5_finds_205 : decode cX5_finds 205 = .ok (.goto (-188), 3) := by decide +kernel
theorem dX5_finds_208 : decode cX5_finds 208 = .ok (.aload_n 0, 1) := by decide +kernel
theorem dX5_finds_209 : decode cX5_finds 209 = .ok (.getfield 116, 3) := by decide +kernel
theorem dX5_finds_212 : decode cX5_finds 212 = .ok (.ifCond .le 7, 3) := by decide +kernel
theorem dX5_finds_215 : decode cX5_finds 215 = .ok (.iconst 1, 1) := by decide +kernel
theorem dX5_finds_216 : decode cX5_finds 216 = .ok (.goto 4, 3) := by decide +kernel
theorem dX5_finds_219 : decode cX5_finds 219 = .ok (.iconst 0, 1) := by decide +kernel
theorem dX5_finds_220 : decode cX5_finds 220 = .ok (.ireturn, 1) := by decide +kernel
theorem dX5_isBusy_0 : decode cX5_isBusy 0 = .ok (.iconst 0, 1) := by decide +kernel
theorem dX5_isBusy_1 : decode cX5_isBusy 1 = .ok (.istore_n 2, 1) := by decide +kernel
theorem dX5_isBusy_2 : decode cX5_isBusy 2 = .ok (.iconst 0, 1) := by decide +kernel
theorem dX5_isBusy_3 : decode cX5_isBusy 3 = .ok (.istore_n 3, 1) := by decide +kernel
theorem dX5_isBusy_4 : decode cX5_isBusy 4 = .ok (.iload_n 3, 1) := by decide +kernel
theorem dX5_isBusy_5 : decode cX5_isBusy 5 = .ok (.aload_n 0, 1) := by decide +kernel
theorem dX5_isBusy_6 : decode cX5_isBusy 6 = .ok (.getfield 93, 3) := by decide +kernel
theorem dX5_isBusy_9 : decode cX5_isBusy 9 = .ok (.if_icmp .ge 48, 3) := by decide +kernel
theorem dX5_isBusy_12 : decode cX5_isBusy 12 = .ok (.iload_n 2, 1) := by decide +kernel
theorem dX5_isBusy_13 : decode cX5_isBusy 13 = .ok (.ifCond .ne 32, 3) := by decide +kernel
theorem dX5_isBusy_16 : decode cX5_isBusy 16 = .ok (.aload_n 0, 1) := by decide +kernel
theorem dX5_isBusy_17 : decode cX5_isBusy 17 = .ok (.getfield 51, 3) := by decide +kernel
theorem dX5_isBusy_20 : decode cX5_isBusy 20 = .ok (.iload_n 3, 1) := by decide +kernel
theorem dX5_isBusy_21 : decode cX5_isBusy 21 = .ok (.iaload, 1) := by decide +kernel
theorem dX5_isBusy_22 : decode cX5_isBusy 22 = .ok (.ifCond .ne 27, 3) := by decide +kernel
theorem dX5_isBusy_25 : decode cX5_isBusy 25 = .ok (.aload_n 0, 1) := by decide +kernel
theorem dX5_isBusy_26 : decode cX5_isBusy 26 = .ok (.getfield 45, 3) := by decide +kernel
theorem dX5_isBusy_29 : decode cX5_isBusy 29 = .ok (.iload_n 3, 1) := by decide +kernel
theorem dX5_isBusy_30 : decode cX5_isBusy 30 = .ok (.iaload, 1) := by decide +kernel
theorem dX5_isBusy_31 : decode cX5_isBusy 31 = .ok (.iload_n 1, 1) := by decide +kernel
theorem dX5_isBusy_32 : decode cX5_isBusy 32 = .ok (.if_icmp .eq 13, 3) := by decide +kernel
theorem dX5_isBusy_35 : decode cX5_isBusy 35 = .ok (.aload_n 0, 1) := by decide +kernel
theorem dX5_isBusy_36 : decode cX5_isBusy 36 = .ok (.getfield 48, 3) := by decide +kernel
theorem dX5_isBusy_39 : decode cX5_isBusy 39 = .ok (.iload_n 3, 1) := by decide +kernel
theorem dX5_isBusy_40 : decode cX5_isBusy 40 = .ok (.iaload, 1) := by decide +kernel
theorem dX5_isBusy_41 : decode cX5_isBusy 41 = .ok (.iload_n 1, 1) := by decide +kernel
theorem dX5_isBusy_42 : decode cX5_isBusy 42 = .ok (.if_icmp .ne 7, 3) := by decide +kernel
theorem dX5_isBusy_45 : decode cX5_isBusy 45 = .ok (.iconst 1, 1) := by decide +kernel
theorem dX5_isBusy_46 : decode cX5_isBusy 46 = .ok (.goto 4, 3) := by decide +kernel
theorem dX5_isBusy_49 : decode cX5_isBusy 49 = .ok (.iconst 0, 1) := by decide +kernel
theorem dX5_isBusy_50 : decode cX5_isBusy 50 = .ok (.istore_n 2, 1) := by decide +kernel
theorem dX5_isBusy_51 : decode cX5_isBusy 51 = .ok (.iinc 3 1, 3) := by decide +kernel
theorem dX5_isBusy_54 : decode cX5_isBusy 54 = .ok (.goto (-50), 3) := by decide +kernel
theorem dX5_isBusy_57 : decode cX5_isBusy 57 = .ok (.iload_n 2, 1) := by decide +kernel
theorem dX5_isBusy_58 : decode cX5_isBusy 58 = .ok (.ireturn, 1) := by decide +kernel
theorem dX5_takesBest_0 : decode cX5_takesBest 0 = .ok (.aload_n 0, 1) := by decide +kernel
theorem dX5_takesBest_1 : decode cX5_takesBest 1 = .ok (.getfield 66, 3) := by decide +kernel
theorem dX5_takesBest_4 : decode cX5_takesBest 4 = .ok (.iload_n 1, 1) := by decide +kernel
theorem dX5_takesBest_5 : decode cX5_takesBest 5 = .ok (.aload_n 0, 1) := by decide +kernel
theorem dX5_takesBest_6 : decode cX5_takesBest 6 = .ok (.getfield 116, 3) := by decide +kernel
theorem dX5_takesBest_9 : decode cX5_takesBest 9 = .ok (.iastore, 1) := by decide +kernel
theorem dX5_takesBest_10 : decode cX5_takesBest 10 = .ok (.iconst 0, 1) := by decide +kernel
theorem dX5_takesBest_11 : decode cX5_takesBest 11 = .ok (.istore_n 2, 1) := by decide +kernel
theorem dX5_takesBest_12 : decode cX5_takesBest 12 = .ok (.iload_n 2, 1) := by decide +kernel
theorem dX5_takesBest_13 : decode cX5_takesBest 13 = .ok (.aload_n 0, 1) := by decide +kernel
theorem dX5_takesBest_14 : decode cX5_takesBest 14 = .ok (.getfield 116, 3) := by decide +kernel
theorem dX5_takesBest_17 : decode cX5_takesBest 17 = .ok (.if_icmp .ge 25, 3) := by decide +kernel
theorem dX5_takesBest_20 : decode cX5_takesBest 20 = .ok (.aload_n 0, 1) := by decide +kernel
theorem dX5_takesBest_21 : decode cX5_takesBest 21 = .ok (.getfield 69, 3) := by decide +kernel
theorem dX5_takesBest_24 : decode cX5_takesBest 24 = .ok (.iconst 5, 1) := by decide +kernel
theorem dX5_takesBest_25 : decode cX5_takesBest 25 = .ok (.iload_n 1, 1) := by decide +kernel
theorem dX5_takesBest_26 : decode cX5_takesBest 26 = .ok (.imul, 1) := by decide +kernel
theorem dX5_takesBest_27 : decode cX5_takesBest 27 = .ok (.iload_n 2, 1) := by decide +kernel
theorem dX5_takesBest_28 : decode cX5_takesBest 28 = .ok (.iadd, 1) := by decide +kernel
theorem dX5_takesBest_29 : decode cX5_takesBest 29 = .ok (.aload_n 0, 1) := by decide +kernel
theorem dX5_takesBest_30 : decode cX5_takesBest 30 = .ok (.getfield 72, 3) := by decide +kernel
theorem dX5_takesBest_33 : decode cX5_takesBest 33 = .ok (.iload_n 2, 1) := by decide +kernel
theorem dX5_takesBest_34 : decode cX5_takesBest 34 = .ok (.iaload, 1) := by decide +kernel
theorem dX5_takesBest_35 : decode cX5_takesBest 35 = .ok (.iastore, 1) := by decide +kernel
theorem dX5_takesBest_36 : decode cX5_takesBest 36 = .ok (.iinc 2 1, 3) := by decide +kernel
theorem dX5_takesBest_39 : decode cX5_takesBest 39 = .ok (.goto (-27), 3) := by decide +kernel
theorem dX5_takesBest_42 : decode cX5_takesBest 42 = .ok (.return_, 1) := by decide +kernel
theorem dX5_call_0 : decode cX5_call 0 = .ok (.aload_n 0, 1) := by decide +kernel
theorem dX5_call_1 : decode cX5_call 1 = .ok (.aload_n 0, 1) := by decide +kernel
theorem dX5_call_2 : decode cX5_call 2 = .ok (.iload_n 1, 1) := by decide +kernel
theorem dX5_call_3 : decode cX5_call 3 = .ok (.invokevirtual 101, 3) := by decide +kernel
theorem dX5_call_6 : decode cX5_call 6 = .ok (.ifCond .eq 11, 3) := by decide +kernel
theorem dX5_call_9 : decode cX5_call 9 = .ok (.aload_n 0, 1) := by decide +kernel
theorem dX5_call_10 : decode cX5_call 10 = .ok (.iload_n 2, 1) := by decide +kernel
theorem dX5_call_11 : decode cX5_call 11 = .ok (.invokevirtual 101, 3) := by decide +kernel
theorem dX5_call_14 : decode cX5_call 14 = .ok (.ifCond .ne 7, 3) := by decide +kernel
theorem dX5_call_17 : decode cX5_call 17 = .ok (.iconst 1, 1) := by decide +kernel
theorem dX5_call_18 : decode cX5_call 18 = .ok (.goto 13, 3) := by decide +kernel
theorem dX5_call_21 : decode cX5_call 21 = .ok (.iload_n 1, 1) := by decide +kernel
theorem dX5_call_22 : decode cX5_call 22 = .ok (.iload_n 2, 1) := by decide +kernel
theorem dX5_call_23 : decode cX5_call 23 = .ok (.if_icmp .ne 7, 3) := by decide +kernel
theorem dX5_call_26 : decode cX5_call 26 = .ok (.iconst 2, 1) := by decide +kernel
theorem dX5_call_27 : decode cX5_call 27 = .ok (.goto 4, 3) := by decide +kernel
theorem dX5_call_30 : decode cX5_call 30 = .ok (.iconst 0, 1) := by decide +kernel
theorem dX5_call_31 : decode cX5_call 31 = .ok (.putfield 78, 3) := by decide +kernel
theorem dX5_call_34 : decode cX5_call 34 = .ok (.aload_n 0, 1) := by decide +kernel
theorem dX5_call_35 : decode cX5_call 35 = .ok (.getfield 78, 3) := by decide +kernel
theorem dX5_call_38 : decode cX5_call 38 = .ok (.ifCond .le 5, 3) := by decide +kernel
theorem dX5_call_41 : decode cX5_call 41 = .ok (.iconst 0, 1) := by decide +kernel
theorem dX5_call_42 : decode cX5_call 42 = .ok (.ireturn, 1) := by decide +kernel
theorem dX5_call_43 : decode cX5_call 43 = .ok (.aload_n 0, 1) := by decide +kernel
theorem dX5_call_44 : decode cX5_call 44 = .ok (.iload_n 1, 1) := by decide +kernel
theorem dX5_call_45 : decode cX5_call 45 = .ok (.invokevirtual 128, 3) := by decide +kernel
theorem dX5_call_48 : decode cX5_call 48 = .ok (.ifCond .ne 41, 3) := by decide +kernel
theorem dX5_call_51 : decode cX5_call 51 = .ok (.aload_n 0, 1) := by decide +kernel
theorem dX5_call_52 : decode cX5_call 52 = .ok (.iload_n 2, 1) := by decide +kernel
theorem dX5_call_53 : decode cX5_call 53 = .ok (.invokevirtual 128, 3) := by decide +kernel
theorem dX5_call_56 : decode cX5_call 56 = .ok (.ifCond .ne 33, 3) := by decide +kernel
theorem dX5_call_59 : decode cX5_call 59 = .ok (.aload_n 0, 1) := by decide +kernel
theorem dX5_call_60 : decode cX5_call 60 = .ok (.getfield 93, 3) := by decide +kernel
theorem dX5_call_63 : decode cX5_call 63 = .ok (.bipush 60, 2) := by decide +kernel
theorem dX5_call_65 : decode cX5_call 65 = .ok (.if_icmp .ge 24, 3) := by decide +kernel
theorem dX5_call_68 : decode cX5_call 68 = .ok (.aload_n 0, 1) := by decide +kernel
theorem dX5_call_69 : decode cX5_call 69 = .ok (.aload_n 0, 1) := by decide +kernel
theorem dX5_call_70 : decode cX5_call 70 = .ok (.iload_n 1, 1) := by decide +kernel
theorem dX5_call_71 : decode cX5_call 71 = .ok (.invokevirtual 104, 3) := by decide +kernel
theorem dX5_call_74 : decode cX5_call 74 = .ok (.aload_n 0, 1) := by decide +kernel
theorem dX5_call_75 : decode cX5_call 75 = .ok (.iload_n 2, 1) := by decide +kernel
theorem dX5_call_76 : decode cX5_call 76 = .ok (.invokevirtual 104, 3) := by decide +kernel
theorem dX5_call_79 : decode cX5_call 79 = .ok (.invokevirtual 131, 3) := by decide +kernel
theorem dX5_call_82 : decode cX5_call 82 = .ok (.ifCond .eq 7, 3) := by decide +kernel
theorem dX5_call_85 : decode cX5_call 85 = .ok (.iconst 1, 1) := by decide +kernel
theorem dX5_call_86 : decode cX5_call 86 = .ok (.goto 4, 3) := by decide +kernel
theorem dX5_call_89 : decode cX5_call 89 = .ok (.iconst 0, 1) := by decide +kernel
theorem dX5_call_90 : decode cX5_call 90 = .ok (.istore_n 3, 1) := by decide +kernel
theorem dX5_call_91 : decode cX5_call 91 = .ok (.aload_n 0, 1) := by decide +kernel
theorem dX5_call_92 : decode cX5_call 92 = .ok (.iload_n 3, 1) := by decide +kernel
theorem dX5_call_93 : decode cX5_call 93 = .ok (.ifCond .eq 7, 3) := by decide +kernel
theorem dX5_call_96 : decode cX5_call 96 = .ok (.iconst 0, 1) := by decide +kernel
theorem dX5_call_97 : decode cX5_call 97 = .ok (.goto 4, 3) := by decide +kernel
theorem dX5_call_100 : decode cX5_call 100 = .ok (.iconst 3, 1) := by decide +kernel
theorem dX5_call_101 : decode cX5_call 101 = .ok (.putfield 78, 3) := by decide +kernel
theorem dX5_call_104 : decode cX5_call 104 = .ok (.aload_n 0, 1) := by decide +kernel
theorem dX5_call_105 : decode cX5_call 105 = .ok (.getfield 78, 3) := by decide +kernel
theorem dX5_call_108 : decode cX5_call 108 = .ok (.ifCond .le 5, 3) := by decide +kernel
theorem dX5_call_111 : decode cX5_call 111 = .ok (.iconst 0, 1) := by decide +kernel
theorem dX5_call_112 : decode cX5_call 112 = .ok (.ireturn, 1) := by decide +kernel
theorem dX5_call_113 : decode cX5_call 113 = .ok (.aload_n 0, 1) := by decide +kernel
theorem dX5_call_114 : decode cX5_call 114 = .ok (.getfield 45, 3) := by decide +kernel
theorem dX5_call_117 : decode cX5_call 117 = .ok (.aload_n 0, 1) := by decide +kernel
theorem dX5_call_118 : decode cX5_call 118 = .ok (.getfield 93, 3) := by decide +kernel
theorem dX5_call_121 : decode cX5_call 121 = .ok (.iload_n 1, 1) := by decide +kernel
theorem dX5_call_122 : decode cX5_call 122 = .ok (.iastore, 1) := by decide +kernel
theorem dX5_call_123 : decode cX5_call 123 = .ok (.aload_n 0, 1) := by decide +kernel
theorem dX5_call_124 : decode cX5_call 124 = .ok (.getfield 48, 3) := by decide +kernel
theorem dX5_call_127 : decode cX5_call 127 = .ok (.aload_n 0, 1) := by decide +kernel
theorem dX5_call_128 : decode cX5_call 128 = .ok (.getfield 93, 3) := by decide +kernel
theorem dX5_call_131 : decode cX5_call 131 = .ok (.iload_n 2, 1) := by decide +kernel
theorem dX5_call_132 : decode cX5_call 132 = .ok (.iastore, 1) := by decide +kernel
theorem dX5_call_133 : decode cX5_call 133 = .ok (.aload_n 0, 1) := by decide +kernel
theorem dX5_call_134 : decode cX5_call 134 = .ok (.getfield 51, 3) := by decide +kernel
theorem dX5_call_137 : decode cX5_call 137 = .ok (.aload_n 0, 1) := by decide +kernel
theorem dX5_call_138 : decode cX5_call 138 = .ok (.getfield 93, 3) := by decide +kernel
theorem dX5_call_141 : decode cX5_call 141 = .ok (.iconst 0, 1) := by decide +kernel
theorem dX5_call_142 : decode cX5_call 142 = .ok (.iastore, 1) := by decide +kernel
theorem dX5_call_143 : decode cX5_call 143 = .ok (.aload_n 0, 1) := by decide +kernel
theorem dX5_call_144 : decode cX5_call 144 = .ok (.getfield 54, 3) := by decide +kernel
theorem dX5_call_147 : decode cX5_call 147 = .ok (.aload_n 0, 1) := by decide +kernel
theorem dX5_call_148 : decode cX5_call 148 = .ok (.getfield 93, 3) := by decide +kernel
theorem dX5_call_151 : decode cX5_call 151 = .ok (.aload_n 0, 1) := by decide +kernel
theorem dX5_call_152 : decode cX5_call 152 = .ok (.getfield 7, 3) := by decide +kernel
theorem dX5_call_155 : decode cX5_call 155 = .ok (.aload_n 0, 1) := by decide +kernel
theorem dX5_call_156 : decode cX5_call 156 = .ok (.iload_n 1, 1) := by decide +kernel
theorem dX5_call_157 : decode cX5_call 157 = .ok (.invokevirtual 104, 3) := by decide +kernel
theorem dX5_call_160 : decode cX5_call 160 = .ok (.iaload, 1) := by decide +kernel
theorem dX5_call_161 : decode cX5_call 161 = .ok (.iastore, 1) := by decide +kernel
theorem dX5_call_162 : decode cX5_call 162 = .ok (.aload_n 0, 1) := by decide +kernel
theorem dX5_call_163 : decode cX5_call 163 = .ok (.getfield 57, 3) := by decide +kernel
theorem dX5_call_166 : decode cX5_call 166 = .ok (.aload_n 0, 1) := by decide +kernel
theorem dX5_call_167 : decode cX5_call 167 = .ok (.getfield 93, 3) := by decide +kernel
theorem dX5_call_170 : decode cX5_call 170 = .ok (.aload_n 0, 1) := by decide +kernel
theorem dX5_call_171 : decode cX5_call 171 = .ok (.getfield 13, 3) := by decide +kernel
theorem dX5_call_174 : decode cX5_call 174 = .ok (.aload_n 0, 1) := by decide +kernel
theorem dX5_call_175 : decode cX5_call 175 = .ok (.iload_n 1, 1) := by decide +kernel
theorem dX5_call_176 : decode cX5_call 176 = .ok (.invokevirtual 104, 3) := by decide +kernel
theorem dX5_call_179 : decode cX5_call 179 = .ok (.iaload, 1) := by decide +kernel
theorem dX5_call_180 : decode cX5_call 180 = .ok (.iastore, 1) := by decide +kernel
theorem dX5_call_181 : decode cX5_call 181 = .ok (.aload_n 0, 1) := by decide +kernel
theorem dX5_call_182 : decode cX5_call 182 = .ok (.aload_n 0, 1) := by decide +kernel
theorem dX5_call_183 : decode cX5_call 183 = .ok (.getfield 93, 3) := by decide +kernel
theorem dX5_call_186 : decode cX5_call 186 = .ok (.invokevirtual 134, 3) := by decide +kernel
theorem dX5_call_189 : decode cX5_call 189 = .ok (.aload_n 0, 1) := by decide +kernel
theorem dX5_call_190 : decode cX5_call 190 = .ok (.dup, 1) := by decide +kernel
theorem dX5_call_191 : decode cX5_call 191 = .ok (.getfield 93, 3) := by decide +kernel
theorem dX5_call_194 : decode cX5_call 194 = .ok (.iconst 1, 1) := by decide +kernel
theorem dX5_call_195 : decode cX5_call 195 = .ok (.iadd, 1) := by decide +kernel
theorem dX5_call_196 : decode cX5_call 196 = .ok (.putfield 93, 3) := by decide +kernel
theorem dX5_call_199 : decode cX5_call 199 = .ok (.aload_n 0, 1) := by decide +kernel
theorem dX5_call_200 : decode cX5_call 200 = .ok (.getfield 93, 3) := by decide +kernel
theorem dX5_call_203 : decode cX5_call 203 = .ok (.iconst 1, 1) := by decide +kernel
theorem dX5_call_204 : decode cX5_call 204 = .ok (.isub, 1) := by decide +kernel
theorem dX5_call_205 : decode cX5_call 205 = .ok (.ireturn, 1) := by decide +kernel
theorem dX5_hangUp_0 : decode cX5_hangUp 0 = .ok (.aload_n 0, 1) := by decide +kernel
theorem dX5_hangUp_1 : decode cX5_hangUp 1 = .ok (.aload_n 0, 1) := by decide +kernel
theorem dX5_hangUp_2 : decode cX5_hangUp 2 = .ok (.iload_n 1, 1) := by decide +kernel
theorem dX5_hangUp_3 : decode cX5_hangUp 3 = .ok (.invokevirtual 138, 3) := by decide +kernel
theorem dX5_hangUp_6 : decode cX5_hangUp 6 = .ok (.ifCond .ne 7, 3) := by decide +kernel
theorem dX5_hangUp_9 : decode cX5_hangUp 9 = .ok (.iconst 1, 1) := by decide +kernel
theorem dX5_hangUp_10 : decode cX5_hangUp 10 = .ok (.goto 17, 3) := by decide +kernel
theorem dX5_hangUp_13 : decode cX5_hangUp 13 = .ok (.aload_n 0, 1) := by decide +kernel
theorem dX5_hangUp_14 : decode cX5_hangUp 14 = .ok (.getfield 51, 3) := by decide +kernel
theorem dX5_hangUp_17 : decode cX5_hangUp 17 = .ok (.iload_n 1, 1) := by decide +kernel
theorem dX5_hangUp_18 : decode cX5_hangUp 18 = .ok (.iaload, 1) := by decide +kernel
theorem dX5_hangUp_19 : decode cX5_hangUp 19 = .ok (.ifCond .eq 7, 3) := by decide +kernel
theorem dX5_hangUp_22 : decode cX5_hangUp 22 = .ok (.iconst 2, 1) := by decide +kernel
theorem dX5_hangUp_23 : decode cX5_hangUp 23 = .ok (.goto 4, 3) := by decide +kernel
theorem dX5_hangUp_26 : decode cX5_hangUp 26 = .ok (.iconst 0, 1) := by decide +kernel
theorem dX5_hangUp_27 : decode cX5_hangUp 27 = .ok (.putfield 78, 3) := by decide +kernel
theorem dX5_hangUp_30 : decode cX5_hangUp 30 = .ok (.aload_n 0, 1) := by decide +kernel
theorem dX5_hangUp_31 : decode cX5_hangUp 31 = .ok (.getfield 78, 3) := by decide +kernel
theorem dX5_hangUp_34 : decode cX5_hangUp 34 = .ok (.ifCond .le 5, 3) := by decide +kernel
theorem dX5_hangUp_37 : decode cX5_hangUp 37 = .ok (.iconst 0, 1) := by decide +kernel
theorem dX5_hangUp_38 : decode cX5_hangUp 38 = .ok (.ireturn, 1) := by decide +kernel
theorem dX5_hangUp_39 : decode cX5_hangUp 39 = .ok (.aload_n 0, 1) := by decide +kernel
theorem dX5_hangUp_40 : decode cX5_hangUp 40 = .ok (.getfield 51, 3) := by decide +kernel
theorem dX5_hangUp_43 : decode cX5_hangUp 43 = .ok (.iload_n 1, 1) := by decide +kernel
theorem dX5_hangUp_44 : decode cX5_hangUp 44 = .ok (.iconst 1, 1) := by decide +kernel
theorem dX5_hangUp_45 : decode cX5_hangUp 45 = .ok (.iastore, 1) := by decide +kernel
theorem dX5_hangUp_46 : decode cX5_hangUp 46 = .ok (.aload_n 0, 1) := by decide +kernel
theorem dX5_hangUp_47 : decode cX5_hangUp 47 = .ok (.getfield 60, 3) := by decide +kernel
theorem dX5_hangUp_50 : decode cX5_hangUp 50 = .ok (.iload_n 1, 1) := by decide +kernel
theorem dX5_hangUp_51 : decode cX5_hangUp 51 = .ok (.iaload, 1) := by decide +kernel
theorem dX5_hangUp_52 : decode cX5_hangUp 52 = .ok (.ireturn, 1) := by decide +kernel
theorem dX5_isStopped_0 : decode cX5_isStopped 0 = .ok (.iconst 0, 1) := by decide +kernel
theorem dX5_isStopped_1 : decode cX5_isStopped 1 = .ok (.istore_n 2, 1) := by decide +kernel
theorem dX5_isStopped_2 : decode cX5_isStopped 2 = .ok (.iconst 1, 1) := by decide +kernel
theorem dX5_isStopped_3 : decode cX5_isStopped 3 = .ok (.istore_n 3, 1) := by decide +kernel
theorem dX5_isStopped_4 : decode cX5_isStopped 4 = .ok (.iload_n 3, 1) := by decide +kernel
theorem dX5_isStopped_5 : decode cX5_isStopped 5 = .ok (.aload_n 0, 1) := by decide +kernel
theorem dX5_isStopped_6 : decode cX5_isStopped 6 = .ok (.getfield 66, 3) := by decide +kernel
theorem dX5_isStopped_9 : decode cX5_isStopped 9 = .ok (.iload_n 1, 1) := by decide +kernel
theorem dX5_isStopped_10 : decode cX5_isStopped 10 = .ok (.iaload, 1) := by decide +kernel
theorem dX5_isStopped_11 : decode cX5_isStopped 11 = .ok (.if_icmp .ge 48, 3) := by decide +kernel
theorem dX5_isStopped_14 : decode cX5_isStopped 14 = .ok (.iload_n 2, 1) := by decide +kernel
theorem dX5_isStopped_15 : decode cX5_isStopped 15 = .ok (.ifCond .ne 32, 3) := by decide +kernel
theorem dX5_isStopped_18 : decode cX5_isStopped 18 = .ok (.aload_n 0, 1) := by decide +kernel
theorem dX5_isStopped_19 : decode cX5_isStopped 19 = .ok (.aload_n 0, 1) := by decide +kernel
theorem dX5_isStopped_20 : decode cX5_isStopped 20 = .ok (.getfield 69, 3) := by decide +kernel
theorem dX5_isStopped_23 : decode cX5_isStopped 23 = .ok (.iconst 5, 1) := by decide +kernel
theorem dX5_isStopped_24 : decode cX5_isStopped 24 = .ok (.iload_n 1, 1) := by decide +kernel
theorem dX5_isStopped_25 : decode cX5_isStopped 25 = .ok (.imul, 1) := by decide +kernel
theorem dX5_isStopped_26 : decode cX5_isStopped 26 = .ok (.iload_n 3, 1) := by decide +kernel
theorem dX5_isStopped_27 : decode cX5_isStopped 27 = .ok (.iadd, 1) := by decide +kernel
theorem dX5_isStopped_28 : decode cX5_isStopped 28 = .ok (.iconst 1, 1) := by decide +kernel
theorem dX5_isStopped_29 : decode cX5_isStopped 29 = .ok (.isub, 1) := by decide +kernel
theorem dX5_isStopped_30 : decode cX5_isStopped 30 = .ok (.iaload, 1) := by decide +kernel
theorem dX5_isStopped_31 : decode cX5_isStopped 31 = .ok (.aload_n 0, 1) := by decide +kernel
theorem dX5_isStopped_32 : decode cX5_isStopped 32 = .ok (.getfield 69, 3) := by decide +kernel
theorem dX5_isStopped_35 : decode cX5_isStopped 35 = .ok (.iconst 5, 1) := by decide +kernel
theorem dX5_isStopped_36 : decode cX5_isStopped 36 = .ok (.iload_n 1, 1) := by decide +kernel
theorem dX5_isStopped_37 : decode cX5_isStopped 37 = .ok (.imul, 1) := by decide +kernel
theorem dX5_isStopped_38 : decode cX5_isStopped 38 = .ok (.iload_n 3, 1) := by decide +kernel
theorem dX5_isStopped_39 : decode cX5_isStopped 39 = .ok (.iadd, 1) := by decide +kernel
theorem dX5_isStopped_40 : decode cX5_isStopped 40 = .ok (.iaload, 1) := by decide +kernel
theorem dX5_isStopped_41 : decode cX5_isStopped 41 = .ok (.invokevirtual 113, 3) := by decide +kernel
theorem dX5_isStopped_44 : decode cX5_isStopped 44 = .ok (.ifCond .eq 7, 3) := by decide +kernel
theorem dX5_isStopped_47 : decode cX5_isStopped 47 = .ok (.iconst 1, 1) := by decide +kernel
theorem dX5_isStopped_48 : decode cX5_isStopped 48 = .ok (.goto 4, 3) := by decide +kernel
theorem dX5_isStopped_51 : decode cX5_isStopped 51 = .ok (.iconst 0, 1) := by decide +kernel
theorem dX5_isStopped_52 : decode cX5_isStopped 52 = .ok (.istore_n 2, 1) := by decide +kernel
theorem dX5_isStopped_53 : decode cX5_isStopped 53 = .ok (.iinc 3 1, 3) := by decide +kernel
theorem dX5_isStopped_56 : decode cX5_isStopped 56 = .ok (.goto (-52), 3) := by decide +kernel
theorem dX5_isStopped_59 : decode cX5_isStopped 59 = .ok (.iload_n 2, 1) := by decide +kernel
theorem dX5_isStopped_60 : decode cX5_isStopped 60 = .ok (.ireturn, 1) := by decide +kernel
theorem dX5_isPaid_0 : decode cX5_isPaid 0 = .ok (.aload_n 0, 1) := by decide +kernel
theorem dX5_isPaid_1 : decode cX5_isPaid 1 = .ok (.getfield 45, 3) := by decide +kernel
theorem dX5_isPaid_4 : decode cX5_isPaid 4 = .ok (.iload_n 1, 1) := by decide +kernel
theorem dX5_isPaid_5 : decode cX5_isPaid 5 = .ok (.iaload, 1) := by decide +kernel
theorem dX5_isPaid_6 : decode cX5_isPaid 6 = .ok (.istore_n 2, 1) := by decide +kernel
theorem dX5_isPaid_7 : decode cX5_isPaid 7 = .ok (.aload_n 0, 1) := by decide +kernel
theorem dX5_isPaid_8 : decode cX5_isPaid 8 = .ok (.getfield 60, 3) := by decide +kernel
theorem dX5_isPaid_11 : decode cX5_isPaid 11 = .ok (.iload_n 1, 1) := by decide +kernel
theorem dX5_isPaid_12 : decode cX5_isPaid 12 = .ok (.iaload, 1) := by decide +kernel
theorem dX5_isPaid_13 : decode cX5_isPaid 13 = .ok (.aload_n 0, 1) := by decide +kernel
theorem dX5_isPaid_14 : decode cX5_isPaid 14 = .ok (.getfield 54, 3) := by decide +kernel
theorem dX5_isPaid_17 : decode cX5_isPaid 17 = .ok (.iload_n 1, 1) := by decide +kernel
theorem dX5_isPaid_18 : decode cX5_isPaid 18 = .ok (.iaload, 1) := by decide +kernel
theorem dX5_isPaid_19 : decode cX5_isPaid 19 = .ok (.irem, 1) := by decide +kernel
theorem dX5_isPaid_20 : decode cX5_isPaid 20 = .ok (.ifCond .eq 5, 3) := by decide +kernel
theorem dX5_isPaid_23 : decode cX5_isPaid 23 = .ok (.iconst 1, 1) := by decide +kernel
theorem dX5_isPaid_24 : decode cX5_isPaid 24 = .ok (.ireturn, 1) := by decide +kernel
theorem dX5_isPaid_25 : decode cX5_isPaid 25 = .ok (.aload_n 0, 1) := by decide +kernel
theorem dX5_isPaid_26 : decode cX5_isPaid 26 = .ok (.getfield 42, 3) := by decide +kernel
theorem dX5_isPaid_29 : decode cX5_isPaid 29 = .ok (.iload_n 2, 1) := by decide +kernel
theorem dX5_isPaid_30 : decode cX5_isPaid 30 = .ok (.iaload, 1) := by decide +kernel
theorem dX5_isPaid_31 : decode cX5_isPaid 31 = .ok (.aload_n 0, 1) := by decide +kernel
theorem dX5_isPaid_32 : decode cX5_isPaid 32 = .ok (.getfield 54, 3) := by decide +kernel
theorem dX5_isPaid_35 : decode cX5_isPaid 35 = .ok (.iload_n 1, 1) := by decide +kernel
theorem dX5_isPaid_36 : decode cX5_isPaid 36 = .ok (.iaload, 1) := by decide +kernel
theorem dX5_isPaid_37 : decode cX5_isPaid 37 = .ok (.if_icmp .lt 20, 3) := by decide +kernel
theorem dX5_isPaid_40 : decode cX5_isPaid 40 = .ok (.aload_n 0, 1) := by decide +kernel
theorem dX5_isPaid_41 : decode cX5_isPaid 41 = .ok (.getfield 42, 3) := by decide +kernel
theorem dX5_isPaid_44 : decode cX5_isPaid 44 = .ok (.iload_n 2, 1) := by decide +kernel
theorem dX5_isPaid_45 : decode cX5_isPaid 45 = .ok (.dup2, 1) := by decide +kernel
theorem dX5_isPaid_46 : decode cX5_isPaid 46 = .ok (.iaload, 1) := by decide +kernel
theorem dX5_isPaid_47 : decode cX5_isPaid 47 = .ok (.aload_n 0, 1) := by decide +kernel
theorem dX5_isPaid_48 : decode cX5_isPaid 48 = .ok (.getfield 54, 3) := by decide +kernel
theorem dX5_isPaid_51 : decode cX5_isPaid 51 = .ok (.iload_n 1, 1) := by decide +kernel
theorem dX5_isPaid_52 : decode cX5_isPaid 52 = .ok (.iaload, 1) := by decide +kernel
theorem dX5_isPaid_53 : decode cX5_isPaid 53 = .ok (.isub, 1) := by decide +kernel
theorem dX5_isPaid_54 : decode cX5_isPaid 54 = .ok (.iastore, 1) := by decide +kernel
theorem dX5_isPaid_55 : decode cX5_isPaid 55 = .ok (.iconst 1, 1) := by decide +kernel
theorem dX5_isPaid_56 : decode cX5_isPaid 56 = .ok (.ireturn, 1) := by decide +kernel
theorem dX5_isPaid_57 : decode cX5_isPaid 57 = .ok (.aload_n 0, 1) := by decide +kernel
theorem dX5_isPaid_58 : decode cX5_isPaid 58 = .ok (.getfield 39, 3) := by decide +kernel
theorem dX5_isPaid_61 : decode cX5_isPaid 61 = .ok (.iload_n 2, 1) := by decide +kernel
theorem dX5_isPaid_62 : decode cX5_isPaid 62 = .ok (.iaload, 1) := by decide +kernel
theorem dX5_isPaid_63 : decode cX5_isPaid 63 = .ok (.aload_n 0, 1) := by decide +kernel
theorem dX5_isPaid_64 : decode cX5_isPaid 64 = .ok (.getfield 57, 3) := by decide +kernel
theorem dX5_isPaid_67 : decode cX5_isPaid 67 = .ok (.iload_n 1, 1) := by decide +kernel
theorem dX5_isPaid_68 : decode cX5_isPaid 68 = .ok (.iaload, 1) := by decide +kernel
theorem dX5_isPaid_69 : decode cX5_isPaid 69 = .ok (.if_icmp .lt 7, 3) := by decide +kernel
theorem dX5_isPaid_72 : decode cX5_isPaid 72 = .ok (.iconst 1, 1) := by decide +kernel
theorem dX5_isPaid_73 : decode cX5_isPaid 73 = .ok (.goto 4, 3) := by decide +kernel
theorem dX5_isPaid_76 : decode cX5_isPaid 76 = .ok (.iconst 0, 1) := by decide +kernel
theorem dX5_isPaid_77 : decode cX5_isPaid 77 = .ok (.istore_n 3, 1) := by decide +kernel
theorem dX5_isPaid_78 : decode cX5_isPaid 78 = .ok (.aload_n 0, 1) := by decide +kernel
theorem dX5_isPaid_79 : decode cX5_isPaid 79 = .ok (.getfield 39, 3) := by decide +kernel
theorem dX5_isPaid_82 : decode cX5_isPaid 82 = .ok (.iload_n 2, 1) := by decide +kernel
theorem dX5_isPaid_83 : decode cX5_isPaid 83 = .ok (.dup2, 1) := by decide +kernel
theorem dX5_isPaid_84 : decode cX5_isPaid 84 = .ok (.iaload, 1) := by decide +kernel
theorem dX5_isPaid_85 : decode cX5_isPaid 85 = .ok (.iload_n 3, 1) := by decide +kernel
theorem dX5_isPaid_86 : decode cX5_isPaid 86 = .ok (.ifCond .eq 12, 3) := by decide +kernel
theorem dX5_isPaid_89 : decode cX5_isPaid 89 = .ok (.aload_n 0, 1) := by decide +kernel
theorem dX5_isPaid_90 : decode cX5_isPaid 90 = .ok (.getfield 57, 3) := by decide +kernel
theorem dX5_isPaid_93 : decode cX5_isPaid 93 = .ok (.iload_n 1, 1) := by decide +kernel
theorem dX5_isPaid_94 : decode cX5_isPaid 94 = .ok (.iaload, 1) := by decide +kernel
theorem dX5_isPaid_95 : decode cX5_isPaid 95 = .ok (.goto 4, 3) := by decide +kernel
theorem dX5_isPaid_98 : decode cX5_isPaid 98 = .ok (.iconst 0, 1) := by decide +kernel
theorem dX5_isPaid_99 : decode cX5_isPaid 99 = .ok (.isub, 1) := by decide +kernel
theorem dX5_isPaid_100 : decode cX5_isPaid 100 = .ok (.iastore, 1) := by decide +kernel
theorem dX5_isPaid_101 : decode cX5_isPaid 101 = .ok (.iload_n 3, 1) := by decide +kernel
theorem dX5_isPaid_102 : decode cX5_isPaid 102 = .ok (.ireturn, 1) := by decide +kernel
theorem dX5_minute_0 : decode cX5_minute 0 = .ok (.iconst 5, 1) := by decide +kernel
theorem dX5_minute_1 : decode cX5_minute 1 = .ok (.iload_n 1, 1) := by decide +kernel
theorem dX5_minute_2 : decode cX5_minute 2 = .ok (.imul, 1) := by decide +kernel
theorem dX5_minute_3 : decode cX5_minute 3 = .ok (.aload_n 0, 1) := by decide +kernel
theorem dX5_minute_4 : decode cX5_minute 4 = .ok (.getfield 66, 3) := by decide +kernel
theorem dX5_minute_7 : decode cX5_minute 7 = .ok (.iload_n 1, 1) := by decide +kernel
theorem dX5_minute_8 : decode cX5_minute 8 = .ok (.iaload, 1) := by decide +kernel
theorem dX5_minute_9 : decode cX5_minute 9 = .ok (.iadd, 1) := by decide +kernel
theorem dX5_minute_10 : decode cX5_minute 10 = .ok (.iconst 1, 1) := by decide +kernel
theorem dX5_minute_11 : decode cX5_minute 11 = .ok (.isub, 1) := by decide +kernel
theorem dX5_minute_12 : decode cX5_minute 12 = .ok (.istore_n 2, 1) := by decide +kernel
theorem dX5_minute_13 : decode cX5_minute 13 = .ok (.aload_n 0, 1) := by decide +kernel
theorem dX5_minute_14 : decode cX5_minute 14 = .ok (.iload_n 1, 1) := by decide +kernel
theorem dX5_minute_15 : decode cX5_minute 15 = .ok (.invokevirtual 141, 3) := by decide +kernel
theorem dX5_minute_18 : decode cX5_minute 18 = .ok (.ifCond .eq 47, 3) := by decide +kernel
theorem dX5_minute_21 : decode cX5_minute 21 = .ok (.aload_n 0, 1) := by decide +kernel
theorem dX5_minute_22 : decode cX5_minute 22 = .ok (.aload_n 0, 1) := by decide +kernel
theorem dX5_minute_23 : decode cX5_minute 23 = .ok (.getfield 69, 3) := by decide +kernel
theorem dX5_minute_26 : decode cX5_minute 26 = .ok (.iconst 5, 1) := by decide +kernel
theorem dX5_minute_27 : decode cX5_minute 27 = .ok (.iload_n 1, 1) := by decide +kernel
theorem dX5_minute_28 : decode cX5_minute 28 = .ok (.imul, 1) := by decide +kernel
theorem dX5_minute_29 : decode cX5_minute 29 = .ok (.iaload, 1) := by decide +kernel
theorem dX5_minute_30 : decode cX5_minute 30 = .ok (.aload_n 0, 1) := by decide +kernel
theorem dX5_minute_31 : decode cX5_minute 31 = .ok (.getfield 69, 3) := by decide +kernel
theorem dX5_minute_34 : decode cX5_minute 34 = .ok (.iload_n 2, 1) := by decide +kernel
theorem dX5_minute_35 : decode cX5_minute 35 = .ok (.iaload, 1) := by decide +kernel
theorem dX5_minute_36 : decode cX5_minute 36 = .ok (.invokevirtual 131, 3) := by decide +kernel
theorem dX5_minute_39 : decode cX5_minute 39 = .ok (.ifCond .ne 11, 3) := by decide +kernel
theorem dX5_minute_42 : decode cX5_minute 42 = .ok (.aload_n 0, 1) := by decide +kernel
theorem dX5_minute_43 : decode cX5_minute 43 = .ok (.getfield 51, 3) := by decide +kernel
theorem dX5_minute_46 : decode cX5_minute 46 = .ok (.iload_n 1, 1) := by decide +kernel
theorem dX5_minute_47 : decode cX5_minute 47 = .ok (.iconst 2, 1) := by decide +kernel
theorem dX5_minute_48 : decode cX5_minute 48 = .ok (.iastore, 1) := by decide +kernel
theorem dX5_minute_49 : decode cX5_minute 49 = .ok (.return_, 1) := by decide +kernel
theorem dX5_minute_50 : decode cX5_minute 50 = .ok (.aload_n 0, 1) := by decide +kernel
theorem dX5_minute_51 : decode cX5_minute 51 = .ok (.iload_n 1, 1) := by decide +kernel
theorem dX5_minute_52 : decode cX5_minute 52 = .ok (.invokevirtual 134, 3) := by decide +kernel
theorem dX5_minute_55 : decode cX5_minute 55 = .ok (.aload_n 0, 1) := by decide +kernel
theorem dX5_minute_56 : decode cX5_minute 56 = .ok (.getfield 63, 3) := by decide +kernel
theorem dX5_minute_59 : decode cX5_minute 59 = .ok (.iload_n 1, 1) := by decide +kernel
theorem dX5_minute_60 : decode cX5_minute 60 = .ok (.dup2, 1) := by decide +kernel
theorem dX5_minute_61 : decode cX5_minute 61 = .ok (.iaload, 1) := by decide +kernel
theorem dX5_minute_62 : decode cX5_minute 62 = .ok (.iconst 1, 1) := by decide +kernel
theorem dX5_minute_63 : decode cX5_minute 63 = .ok (.iadd, 1) := by decide +kernel
theorem dX5_minute_64 : decode cX5_minute 64 = .ok (.iastore, 1) := by decide +kernel
theorem dX5_minute_65 : decode cX5_minute 65 = .ok (.aload_n 0, 1) := by decide +kernel
theorem dX5_minute_66 : decode cX5_minute 66 = .ok (.iload_n 1, 1) := by decide +kernel
theorem dX5_minute_67 : decode cX5_minute 67 = .ok (.invokevirtual 144, 3) := by decide +kernel
theorem dX5_minute_70 : decode cX5_minute 70 = .ok (.ifCond .ne 11, 3) := by decide +kernel
theorem dX5_minute_73 : decode cX5_minute 73 = .ok (.aload_n 0, 1) := by decide +kernel
theorem dX5_minute_74 : decode cX5_minute 74 = .ok (.getfield 51, 3) := by decide +kernel
theorem dX5_minute_77 : decode cX5_minute 77 = .ok (.iload_n 1, 1) := by decide +kernel
theorem dX5_minute_78 : decode cX5_minute 78 = .ok (.iconst 2, 1) := by decide +kernel
theorem dX5_minute_79 : decode cX5_minute 79 = .ok (.iastore, 1) := by decide +kernel
theorem dX5_minute_80 : decode cX5_minute 80 = .ok (.return_, 1) := by decide +kernel
theorem dX5_minute_81 : decode cX5_minute 81 = .ok (.iconst 1, 1) := by decide +kernel
theorem dX5_minute_82 : decode cX5_minute 82 = .ok (.istore_n 3, 1) := by decide +kernel
theorem dX5_minute_83 : decode cX5_minute 83 = .ok (.iload_n 3, 1) := by decide +kernel
theorem dX5_minute_84 : decode cX5_minute 84 = .ok (.aload_n 0, 1) := by decide +kernel
theorem dX5_minute_85 : decode cX5_minute 85 = .ok (.getfield 66, 3) := by decide +kernel
theorem dX5_minute_88 : decode cX5_minute 88 = .ok (.iload_n 1, 1) := by decide +kernel
theorem dX5_minute_89 : decode cX5_minute 89 = .ok (.iaload, 1) := by decide +kernel
theorem dX5_minute_90 : decode cX5_minute 90 = .ok (.if_icmp .ge 54, 3) := by decide +kernel
theorem dX5_minute_93 : decode cX5_minute 93 = .ok (.iconst 5, 1) := by decide +kernel
theorem dX5_minute_94 : decode cX5_minute 94 = .ok (.aload_n 0, 1) := by decide +kernel
theorem dX5_minute_95 : decode cX5_minute 95 = .ok (.getfield 69, 3) := by decide +kernel
theorem dX5_minute_98 : decode cX5_minute 98 = .ok (.iconst 5, 1) := by decide +kernel
theorem dX5_minute_99 : decode cX5_minute 99 = .ok (.iload_n 1, 1) := by decide +kernel
theorem dX5_minute_100 : decode cX5_minute 100 = .ok (.imul, 1) := by decide +kernel
theorem dX5_minute_101 : decode cX5_minute 101 = .ok (.iload_n 3, 1) := by decide +kernel
theorem dX5_minute_102 : decode cX5_minute 102 = .ok (.iadd, 1) := by decide +kernel
theorem dX5_minute_103 : decode cX5_minute 103 = .ok (.iconst 1, 1) := by decide +kernel
theorem dX5_minute_104 : decode cX5_minute 104 = .ok (.isub, 1) := by decide +kernel
theorem dX5_minute_105 : decode cX5_minute 105 = .ok (.iaload, 1) := by decide +kernel
theorem dX5_minute_106 : decode cX5_minute 106 = .ok (.imul, 1) := by decide +kernel
theorem dX5_minute_107 : decode cX5_minute 107 = .ok (.aload_n 0, 1) := by decide +kernel
theorem dX5_minute_108 : decode cX5_minute 108 = .ok (.getfield 69, 3) := by decide +kernel
theorem dX5_minute_111 : decode cX5_minute 111 = .ok (.iconst 5, 1) := by decide +kernel
theorem dX5_minute_112 : decode cX5_minute 112 = .ok (.iload_n 1, 1) := by decide +kernel
theorem dX5_minute_113 : decode cX5_minute 113 = .ok (.imul, 1) := by decide +kernel
theorem dX5_minute_114 : decode cX5_minute 114 = .ok (.iload_n 3, 1) := by decide +kernel
theorem dX5_minute_115 : decode cX5_minute 115 = .ok (.iadd, 1) := by decide +kernel
theorem dX5_minute_116 : decode cX5_minute 116 = .ok (.iaload, 1) := by decide +kernel
theorem dX5_minute_117 : decode cX5_minute 117 = .ok (.iadd, 1) := by decide +kernel
theorem dX5_minute_118 : decode cX5_minute 118 = .ok (.istore 4, 2) := by decide +kernel
theorem dX5_minute_120 : decode cX5_minute 120 = .ok (.aload_n 0, 1) := by decide +kernel
theorem dX5_minute_121 : decode cX5_minute 121 = .ok (.getfield 26, 3) := by decide +kernel
theorem dX5_minute_124 : decode cX5_minute 124 = .ok (.iload 4, 2) := by decide +kernel
theorem dX5_minute_126 : decode cX5_minute 126 = .ok (.dup2, 1) := by decide +kernel
theorem dX5_minute_127 : decode cX5_minute 127 = .ok (.laload, 1) := by decide +kernel
theorem dX5_minute_128 : decode cX5_minute 128 = .ok (.aload_n 0, 1) := by decide +kernel
theorem dX5_minute_129 : decode cX5_minute 129 = .ok (.getfield 20, 3) := by decide +kernel
theorem dX5_minute_132 : decode cX5_minute 132 = .ok (.iload 4, 2) := by decide +kernel
theorem dX5_minute_134 : decode cX5_minute 134 = .ok (.iaload, 1) := by decide +kernel
theorem dX5_minute_135 : decode cX5_minute 135 = .ok (.i2l, 1) := by decide +kernel
theorem dX5_minute_136 : decode cX5_minute 136 = .ok (.ladd, 1) := by decide +kernel
theorem dX5_minute_137 : decode cX5_minute 137 = .ok (.lastore, 1) := by decide +kernel
theorem dX5_minute_138 : decode cX5_minute 138 = .ok (.iinc 3 1, 3) := by decide +kernel
theorem dX5_minute_141 : decode cX5_minute 141 = .ok (.goto (-58), 3) := by decide +kernel
theorem dX5_minute_144 : decode cX5_minute 144 = .ok (.aload_n 0, 1) := by decide +kernel
theorem dX5_minute_145 : decode cX5_minute 145 = .ok (.getfield 60, 3) := by decide +kernel
theorem dX5_minute_148 : decode cX5_minute 148 = .ok (.iload_n 1, 1) := by decide +kernel
theorem dX5_minute_149 : decode cX5_minute 149 = .ok (.dup2, 1) := by decide +kernel
theorem dX5_minute_150 : decode cX5_minute 150 = .ok (.iaload, 1) := by decide +kernel
theorem dX5_minute_151 : decode cX5_minute 151 = .ok (.iconst 1, 1) := by decide +kernel
theorem dX5_minute_152 : decode cX5_minute 152 = .ok (.iadd, 1) := by decide +kernel
theorem dX5_minute_153 : decode cX5_minute 153 = .ok (.iastore, 1) := by decide +kernel
theorem dX5_minute_154 : decode cX5_minute 154 = .ok (.return_, 1) := by decide +kernel
theorem dX5_pass_0 : decode cX5_pass 0 = .ok (.aload_n 0, 1) := by decide +kernel
theorem dX5_pass_1 : decode cX5_pass 1 = .ok (.iload_n 1, 1) := by decide +kernel
theorem dX5_pass_2 : decode cX5_pass 2 = .ok (.iconst 1, 1) := by decide +kernel
theorem dX5_pass_3 : decode cX5_pass 3 = .ok (.sipush 200, 3) := by decide +kernel
theorem dX5_pass_6 : decode cX5_pass 6 = .ok (.invokestatic 82, 3) := by decide +kernel
theorem dX5_pass_9 : decode cX5_pass 9 = .ok (.ifCond .eq 7, 3) := by decide +kernel
theorem dX5_pass_12 : decode cX5_pass 12 = .ok (.iconst 0, 1) := by decide +kernel
theorem dX5_pass_13 : decode cX5_pass 13 = .ok (.goto 4, 3) := by decide +kernel
theorem dX5_pass_16 : decode cX5_pass 16 = .ok (.iconst 1, 1) := by decide +kernel
theorem dX5_pass_17 : decode cX5_pass 17 = .ok (.putfield 78, 3) := by decide +kernel
theorem dX5_pass_20 : decode cX5_pass 20 = .ok (.iconst 0, 1) := by decide +kernel
theorem dX5_pass_21 : decode cX5_pass 21 = .ok (.istore_n 2, 1) := by decide +kernel
theorem dX5_pass_22 : decode cX5_pass 22 = .ok (.iconst 0, 1) := by decide +kernel
theorem dX5_pass_23 : decode cX5_pass 23 = .ok (.istore_n 3, 1) := by decide +kernel
theorem dX5_pass_24 : decode cX5_pass 24 = .ok (.iload_n 3, 1) := by decide +kernel
theorem dX5_pass_25 : decode cX5_pass 25 = .ok (.iload_n 1, 1) := by decide +kernel
theorem dX5_pass_26 : decode cX5_pass 26 = .ok (.if_icmp .ge 69, 3) := by decide +kernel
theorem dX5_pass_29 : decode cX5_pass 29 = .ok (.aload_n 0, 1) := by decide +kernel
theorem dX5_pass_30 : decode cX5_pass 30 = .ok (.getfield 78, 3) := by decide +kernel
theorem dX5_pass_33 : decode cX5_pass 33 = .ok (.ifCond .ne 62, 3) := by decide +kernel
theorem dX5_pass_36 : decode cX5_pass 36 = .ok (.iconst 0, 1) := by decide +kernel
theorem dX5_pass_37 : decode cX5_pass 37 = .ok (.istore 4, 2) := by decide +kernel
theorem dX5_pass_39 : decode cX5_pass 39 = .ok (.iload 4, 2) := by decide +kernel
theorem dX5_pass_41 : decode cX5_pass 41 = .ok (.aload_n 0, 1) := by decide +kernel
theorem dX5_pass_42 : decode cX5_pass 42 = .ok (.getfield 93, 3) := by decide +kernel
theorem dX5_pass_45 : decode cX5_pass 45 = .ok (.if_icmp .ge 44, 3) := by decide +kernel
theorem dX5_pass_48 : decode cX5_pass 48 = .ok (.aload_n 0, 1) := by decide +kernel
theorem dX5_pass_49 : decode cX5_pass 49 = .ok (.getfield 51, 3) := by decide +kernel
theorem dX5_pass_52 : decode cX5_pass 52 = .ok (.iload 4, 2) := by decide +kernel
theorem dX5_pass_54 : decode cX5_pass 54 = .ok (.iaload, 1) := by decide +kernel
theorem dX5_pass_55 : decode cX5_pass 55 = .ok (.ifCond .ne 28, 3) := by decide +kernel
theorem dX5_pass_58 : decode cX5_pass 58 = .ok (.aload_n 0, 1) := by decide +kernel
theorem dX5_pass_59 : decode cX5_pass 59 = .ok (.iload 4, 2) := by decide +kernel
theorem dX5_pass_61 : decode cX5_pass 61 = .ok (.invokevirtual 147, 3) := by decide +kernel
theorem dX5_pass_64 : decode cX5_pass 64 = .ok (.iload_n 2, 1) := by decide +kernel
theorem dX5_pass_65 : decode cX5_pass 65 = .ok (.aload_n 0, 1) := by decide +kernel
theorem dX5_pass_66 : decode cX5_pass 66 = .ok (.getfield 51, 3) := by decide +kernel
theorem dX5_pass_69 : decode cX5_pass 69 = .ok (.iload 4, 2) := by decide +kernel
theorem dX5_pass_71 : decode cX5_pass 71 = .ok (.iaload, 1) := by decide +kernel
theorem dX5_pass_72 : decode cX5_pass 72 = .ok (.iconst 2, 1) := by decide +kernel
theorem dX5_pass_73 : decode cX5_pass 73 = .ok (.if_icmp .ne 7, 3) := by decide +kernel
theorem dX5_pass_76 : decode cX5_pass 76 = .ok (.iconst 1, 1) := by decide +kernel
theorem dX5_pass_77 : decode cX5_pass 77 = .ok (.goto 4, 3) := by decide +kernel
theorem dX5_pass_80 : decode cX5_pass 80 = .ok (.iconst 0, 1) := by decide +kernel
theorem dX5_pass_81 : decode cX5_pass 81 = .ok (.iadd, 1) := by decide +kernel
theorem dX5_pass_82 : decode cX5_pass 82 = .ok (.istore_n 2, 1) := by decide +kernel
theorem dX5_pass_83 : decode cX5_pass 83 = .ok (.iinc 4 1, 3) := by decide +kernel
theorem dX5_pass_86 : decode cX5_pass 86 = .ok (.goto (-47), 3) := by decide +kernel
theorem dX5_pass_89 : decode cX5_pass 89 = .ok (.iinc 3 1, 3) := by decide +kernel
theorem dX5_pass_92 : decode cX5_pass 92 = .ok (.goto (-68), 3) := by decide +kernel
theorem dX5_pass_95 : decode cX5_pass 95 = .ok (.iload_n 2, 1) := by decide +kernel
theorem dX5_pass_96 : decode cX5_pass 96 = .ok (.ireturn, 1) := by decide +kernel
theorem dX5_asks_0 : decode cX5_asks 0 = .ok (.aload_n 0, 1) := by decide +kernel
theorem dX5_asks_1 : decode cX5_asks 1 = .ok (.aload_n 0, 1) := by decide +kernel
theorem dX5_asks_2 : decode cX5_asks 2 = .ok (.iload_n 1, 1) := by decide +kernel
theorem dX5_asks_3 : decode cX5_asks 3 = .ok (.invokevirtual 138, 3) := by decide +kernel
theorem dX5_asks_6 : decode cX5_asks 6 = .ok (.ifCond .eq 7, 3) := by decide +kernel
theorem dX5_asks_9 : decode cX5_asks 9 = .ok (.iconst 0, 1) := by decide +kernel
theorem dX5_asks_10 : decode cX5_asks 10 = .ok (.goto 4, 3) := by decide +kernel
theorem dX5_asks_13 : decode cX5_asks 13 = .ok (.iconst 1, 1) := by decide +kernel
theorem dX5_asks_14 : decode cX5_asks 14 = .ok (.putfield 78, 3) := by decide +kernel
theorem dX5_asks_17 : decode cX5_asks 17 = .ok (.aload_n 0, 1) := by decide +kernel
theorem dX5_asks_18 : decode cX5_asks 18 = .ok (.getfield 78, 3) := by decide +kernel
theorem dX5_asks_21 : decode cX5_asks 21 = .ok (.ifCond .ne 7, 3) := by decide +kernel
theorem dX5_asks_24 : decode cX5_asks 24 = .ok (.iconst 1, 1) := by decide +kernel
theorem dX5_asks_25 : decode cX5_asks 25 = .ok (.goto 4, 3) := by decide +kernel
theorem dX5_asks_28 : decode cX5_asks 28 = .ok (.iconst 0, 1) := by decide +kernel
theorem dX5_asks_29 : decode cX5_asks 29 = .ok (.ireturn, 1) := by decide +kernel
theorem dX5_state_0 : decode cX5_state 0 = .ok (.aload_n 0, 1) := by decide +kernel
theorem dX5_state_1 : decode cX5_state 1 = .ok (.iload_n 1, 1) := by decide +kernel
theorem dX5_state_2 : decode cX5_state 2 = .ok (.invokevirtual 150, 3) := by decide +kernel
theorem dX5_state_5 : decode cX5_state 5 = .ok (.ifCond .eq 12, 3) := by decide +kernel
theorem dX5_state_8 : decode cX5_state 8 = .ok (.aload_n 0, 1) := by decide +kernel
theorem dX5_state_9 : decode cX5_state 9 = .ok (.getfield 51, 3) := by decide +kernel
theorem dX5_state_12 : decode cX5_state 12 = .ok (.iload_n 1, 1) := by decide +kernel
theorem dX5_state_13 : decode cX5_state 13 = .ok (.iaload, 1) := by decide +kernel
theorem dX5_state_14 : decode cX5_state 14 = .ok (.goto 4, 3) := by decide +kernel
theorem dX5_state_17 : decode cX5_state 17 = .ok (.iconst 0, 1) := by decide +kernel
theorem dX5_state_18 : decode cX5_state 18 = .ok (.ireturn, 1) := by decide +kernel
theorem dX5_minutes_0 : decode cX5_minutes 0 = .ok (.aload_n 0, 1) := by decide +kernel
theorem dX5_minutes_1 : decode cX5_minutes 1 = .ok (.iload_n 1, 1) := by decide +kernel
theorem dX5_minutes_2 : decode cX5_minutes 2 = .ok (.invokevirtual 150, 3) := by decide +kernel
theorem dX5_minutes_5 : decode cX5_minutes 5 = .ok (.ifCond .eq 12, 3) := by decide +kernel
theorem dX5_minutes_8 : decode cX5_minutes 8 = .ok (.aload_n 0, 1) := by decide +kernel
theorem dX5_minutes_9 : decode cX5_minutes 9 = .ok (.getfield 60, 3) := by decide +kernel
theorem dX5_minutes_12 : decode cX5_minutes 12 = .ok (.iload_n 1, 1) := by decide +kernel
theorem dX5_minutes_13 : decode cX5_minutes 13 = .ok (.iaload, 1) := by decide +kernel
theorem dX5_minutes_14 : decode cX5_minutes 14 = .ok (.goto 4, 3) := by decide +kernel
theorem dX5_minutes_17 : decode cX5_minutes 17 = .ok (.iconst 0, 1) := by decide +kernel
theorem dX5_minutes_18 : decode cX5_minutes 18 = .ok (.ireturn, 1) := by decide +kernel
theorem dX5_moved_0 : decode cX5_moved 0 = .ok (.aload_n 0, 1) := by decide +kernel
theorem dX5_moved_1 : decode cX5_moved 1 = .ok (.iload_n 1, 1) := by decide +kernel
theorem dX5_moved_2 : decode cX5_moved 2 = .ok (.invokevirtual 150, 3) := by decide +kernel
theorem dX5_moved_5 : decode cX5_moved 5 = .ok (.ifCond .eq 12, 3) := by decide +kernel
theorem dX5_moved_8 : decode cX5_moved 8 = .ok (.aload_n 0, 1) := by decide +kernel
theorem dX5_moved_9 : decode cX5_moved 9 = .ok (.getfield 63, 3) := by decide +kernel
theorem dX5_moved_12 : decode cX5_moved 12 = .ok (.iload_n 1, 1) := by decide +kernel
theorem dX5_moved_13 : decode cX5_moved 13 = .ok (.iaload, 1) := by decide +kernel
theorem dX5_moved_14 : decode cX5_moved 14 = .ok (.goto 4, 3) := by decide +kernel
theorem dX5_moved_17 : decode cX5_moved 17 = .ok (.iconst 0, 1) := by decide +kernel
theorem dX5_moved_18 : decode cX5_moved 18 = .ok (.ireturn, 1) := by decide +kernel
theorem dX5_way_0 : decode cX5_way 0 = .ok (.aload_n 0, 1) := by decide +kernel
theorem dX5_way_1 : decode cX5_way 1 = .ok (.aload_n 0, 1) := by decide +kernel
theorem dX5_way_2 : decode cX5_way 2 = .ok (.iload_n 1, 1) := by decide +kernel
theorem dX5_way_3 : decode cX5_way 3 = .ok (.invokevirtual 138, 3) := by decide +kernel
theorem dX5_way_6 : decode cX5_way 6 = .ok (.ifCond .eq 35, 3) := by decide +kernel
theorem dX5_way_9 : decode cX5_way 9 = .ok (.iload_n 2, 1) := by decide +kernel
theorem dX5_way_10 : decode cX5_way 10 = .ok (.iconst 0, 1) := by decide +kernel
theorem dX5_way_11 : decode cX5_way 11 = .ok (.aload_n 0, 1) := by decide +kernel
theorem dX5_way_12 : decode cX5_way 12 = .ok (.getfield 66, 3) := by decide +kernel
theorem dX5_way_15 : decode cX5_way 15 = .ok (.aload_n 0, 1) := by decide +kernel
theorem dX5_way_16 : decode cX5_way 16 = .ok (.iload_n 1, 1) := by decide +kernel
theorem dX5_way_17 : decode cX5_way 17 = .ok (.invokevirtual 138, 3) := by decide +kernel
theorem dX5_way_20 : decode cX5_way 20 = .ok (.ifCond .eq 7, 3) := by decide +kernel
theorem dX5_way_23 : decode cX5_way 23 = .ok (.iload_n 1, 1) := by decide +kernel
theorem dX5_way_24 : decode cX5_way 24 = .ok (.goto 4, 3) := by decide +kernel
theorem dX5_way_27 : decode cX5_way 27 = .ok (.iconst 0, 1) := by decide +kernel
theorem dX5_way_28 : decode cX5_way 28 = .ok (.iaload, 1) := by decide +kernel
theorem dX5_way_29 : decode cX5_way 29 = .ok (.iconst 1, 1) := by decide +kernel
theorem dX5_way_30 : decode cX5_way 30 = .ok (.isub, 1) := by decide +kernel
theorem dX5_way_31 : decode cX5_way 31 = .ok (.invokestatic 82, 3) := by decide +kernel
theorem dX5_way_34 : decode cX5_way 34 = .ok (.ifCond .eq 7, 3) := by decide +kernel
theorem dX5_way_37 : decode cX5_way 37 = .ok (.iconst 0, 1) := by decide +kernel
theorem dX5_way_38 : decode cX5_way 38 = .ok (.goto 4, 3) := by decide +kernel
theorem dX5_way_41 : decode cX5_way 41 = .ok (.iconst 1, 1) := by decide +kernel
theorem dX5_way_42 : decode cX5_way 42 = .ok (.putfield 78, 3) := by decide +kernel
theorem dX5_way_45 : decode cX5_way 45 = .ok (.aload_n 0, 1) := by decide +kernel
theorem dX5_way_46 : decode cX5_way 46 = .ok (.getfield 78, 3) := by decide +kernel
theorem dX5_way_49 : decode cX5_way 49 = .ok (.ifCond .le 7, 3) := by decide +kernel
theorem dX5_way_52 : decode cX5_way 52 = .ok (.iconst 0, 1) := by decide +kernel
theorem dX5_way_53 : decode cX5_way 53 = .ok (.goto 13, 3) := by decide +kernel
theorem dX5_way_56 : decode cX5_way 56 = .ok (.aload_n 0, 1) := by decide +kernel
theorem dX5_way_57 : decode cX5_way 57 = .ok (.getfield 69, 3) := by decide +kernel
theorem dX5_way_60 : decode cX5_way 60 = .ok (.iconst 5, 1) := by decide +kernel
theorem dX5_way_61 : decode cX5_way 61 = .ok (.iload_n 1, 1) := by decide +kernel
theorem dX5_way_62 : decode cX5_way 62 = .ok (.imul, 1) := by decide +kernel
theorem dX5_way_63 : decode cX5_way 63 = .ok (.iload_n 2, 1) := by decide +kernel
theorem dX5_way_64 : decode cX5_way 64 = .ok (.iadd, 1) := by decide +kernel
theorem dX5_way_65 : decode cX5_way 65 = .ok (.iaload, 1) := by decide +kernel
theorem dX5_way_66 : decode cX5_way 66 = .ok (.ireturn, 1) := by decide +kernel
theorem dX5_cost_0 : decode cX5_cost 0 = .ok (.aload_n 0, 1) := by decide +kernel
theorem dX5_cost_1 : decode cX5_cost 1 = .ok (.iload_n 1, 1) := by decide +kernel
theorem dX5_cost_2 : decode cX5_cost 2 = .ok (.iload_n 2, 1) := by decide +kernel
theorem dX5_cost_3 : decode cX5_cost 3 = .ok (.invokestatic 97, 3) := by decide +kernel
theorem dX5_cost_6 : decode cX5_cost 6 = .ok (.ifCond .eq 7, 3) := by decide +kernel
theorem dX5_cost_9 : decode cX5_cost 9 = .ok (.iconst 0, 1) := by decide +kernel
theorem dX5_cost_10 : decode cX5_cost 10 = .ok (.goto 4, 3) := by decide +kernel
theorem dX5_cost_13 : decode cX5_cost 13 = .ok (.iconst 1, 1) := by decide +kernel
theorem dX5_cost_14 : decode cX5_cost 14 = .ok (.putfield 78, 3) := by decide +kernel
theorem dX5_cost_17 : decode cX5_cost 17 = .ok (.aload_n 0, 1) := by decide +kernel
theorem dX5_cost_18 : decode cX5_cost 18 = .ok (.getfield 78, 3) := by decide +kernel
theorem dX5_cost_21 : decode cX5_cost 21 = .ok (.ifCond .le 5, 3) := by decide +kernel
theorem dX5_cost_24 : decode cX5_cost 24 = .ok (.iconst 0, 1) := by decide +kernel
theorem dX5_cost_25 : decode cX5_cost 25 = .ok (.ireturn, 1) := by decide +kernel
theorem dX5_cost_26 : decode cX5_cost 26 = .ok (.aload_n 0, 1) := by decide +kernel
theorem dX5_cost_27 : decode cX5_cost 27 = .ok (.iload_n 1, 1) := by decide +kernel
theorem dX5_cost_28 : decode cX5_cost 28 = .ok (.iload_n 2, 1) := by decide +kernel
theorem dX5_cost_29 : decode cX5_cost 29 = .ok (.invokevirtual 131, 3) := by decide +kernel
theorem dX5_cost_32 : decode cX5_cost 32 = .ok (.ifCond .eq 10, 3) := by decide +kernel
theorem dX5_cost_35 : decode cX5_cost 35 = .ok (.aload_n 0, 1) := by decide +kernel
theorem dX5_cost_36 : decode cX5_cost 36 = .ok (.getfield 122, 3) := by decide +kernel
theorem dX5_cost_39 : decode cX5_cost 39 = .ok (.goto 4, 3) := by decide +kernel
theorem dX5_cost_42 : decode cX5_cost 42 = .ok (.iconst (-1), 1) := by decide +kernel
theorem dX5_cost_43 : decode cX5_cost 43 = .ok (.ireturn, 1) := by decide +kernel
theorem dX5_best_0 : decode cX5_best 0 = .ok (.aload_n 0, 1) := by decide +kernel
theorem dX5_best_1 : decode cX5_best 1 = .ok (.iload_n 1, 1) := by decide +kernel
theorem dX5_best_2 : decode cX5_best 2 = .ok (.iload_n 2, 1) := by decide +kernel
theorem dX5_best_3 : decode cX5_best 3 = .ok (.invokestatic 97, 3) := by decide +kernel
theorem dX5_best_6 : decode cX5_best 6 = .ok (.ifCond .eq 7, 3) := by decide +kernel
theorem dX5_best_9 : decode cX5_best 9 = .ok (.iconst 0, 1) := by decide +kernel
theorem dX5_best_10 : decode cX5_best 10 = .ok (.goto 4, 3) := by decide +kernel
theorem dX5_best_13 : decode cX5_best 13 = .ok (.iconst 1, 1) := by decide +kernel
theorem dX5_best_14 : decode cX5_best 14 = .ok (.putfield 78, 3) := by decide +kernel
theorem dX5_best_17 : decode cX5_best 17 = .ok (.aload_n 0, 1) := by decide +kernel
theorem dX5_best_18 : decode cX5_best 18 = .ok (.getfield 78, 3) := by decide +kernel
theorem dX5_best_21 : decode cX5_best 21 = .ok (.ifCond .le 5, 3) := by decide +kernel
theorem dX5_best_24 : decode cX5_best 24 = .ok (.iconst 0, 1) := by decide +kernel
theorem dX5_best_25 : decode cX5_best 25 = .ok (.ireturn, 1) := by decide +kernel
theorem dX5_best_26 : decode cX5_best 26 = .ok (.aload_n 0, 1) := by decide +kernel
theorem dX5_best_27 : decode cX5_best 27 = .ok (.aload_n 0, 1) := by decide +kernel
theorem dX5_best_28 : decode cX5_best 28 = .ok (.iload_n 1, 1) := by decide +kernel
theorem dX5_best_29 : decode cX5_best 29 = .ok (.iload_n 2, 1) := by decide +kernel
theorem dX5_best_30 : decode cX5_best 30 = .ok (.invokevirtual 131, 3) := by decide +kernel
theorem dX5_best_33 : decode cX5_best 33 = .ok (.ifCond .eq 21, 3) := by decide +kernel
theorem dX5_best_36 : decode cX5_best 36 = .ok (.iload_n 3, 1) := by decide +kernel
theorem dX5_best_37 : decode cX5_best 37 = .ok (.iconst 0, 1) := by decide +kernel
theorem dX5_best_38 : decode cX5_best 38 = .ok (.aload_n 0, 1) := by decide +kernel
theorem dX5_best_39 : decode cX5_best 39 = .ok (.getfield 116, 3) := by decide +kernel
theorem dX5_best_42 : decode cX5_best 42 = .ok (.iconst 1, 1) := by decide +kernel
theorem dX5_best_43 : decode cX5_best 43 = .ok (.isub, 1) := by decide +kernel
theorem dX5_best_44 : decode cX5_best 44 = .ok (.invokestatic 82, 3) := by decide +kernel
theorem dX5_best_47 : decode cX5_best 47 = .ok (.ifCond .eq 7, 3) := by decide +kernel
theorem dX5_best_50 : decode cX5_best 50 = .ok (.iconst 0, 1) := by decide +kernel
theorem dX5_best_51 : decode cX5_best 51 = .ok (.goto 4, 3) := by decide +kernel
theorem dX5_best_54 : decode cX5_best 54 = .ok (.iconst 1, 1) := by decide +kernel
theorem dX5_best_55 : decode cX5_best 55 = .ok (.putfield 78, 3) := by decide +kernel
theorem dX5_best_58 : decode cX5_best 58 = .ok (.aload_n 0, 1) := by decide +kernel
theorem dX5_best_59 : decode cX5_best 59 = .ok (.getfield 78, 3) := by decide +kernel
theorem dX5_best_62 : decode cX5_best 62 = .ok (.ifCond .le 7, 3) := by decide +kernel
theorem dX5_best_65 : decode cX5_best 65 = .ok (.iconst 0, 1) := by decide +kernel
theorem dX5_best_66 : decode cX5_best 66 = .ok (.goto 9, 3) := by decide +kernel
theorem dX5_best_69 : decode cX5_best 69 = .ok (.aload_n 0, 1) := by decide +kernel
theorem dX5_best_70 : decode cX5_best 70 = .ok (.getfield 72, 3) := by decide +kernel
theorem dX5_best_73 : decode cX5_best 73 = .ok (.iload_n 3, 1) := by decide +kernel
theorem dX5_best_74 : decode cX5_best 74 = .ok (.iaload, 1) := by decide +kernel
theorem dX5_best_75 : decode cX5_best 75 = .ok (.ireturn, 1) := by decide +kernel
theorem dX5_isBarred_0 : decode cX5_isBarred 0 = .ok (.aload_n 0, 1) := by decide +kernel
theorem dX5_isBarred_1 : decode cX5_isBarred 1 = .ok (.iload_n 1, 1) := by decide +kernel
theorem dX5_isBarred_2 : decode cX5_isBarred 2 = .ok (.iload_n 2, 1) := by decide +kernel
theorem dX5_isBarred_3 : decode cX5_isBarred 3 = .ok (.invokestatic 97, 3) := by decide +kernel
theorem dX5_isBarred_6 : decode cX5_isBarred 6 = .ok (.ifCond .eq 7, 3) := by decide +kernel
theorem dX5_isBarred_9 : decode cX5_isBarred 9 = .ok (.iconst 0, 1) := by decide +kernel
theorem dX5_isBarred_10 : decode cX5_isBarred 10 = .ok (.goto 4, 3) := by decide +kernel
theorem dX5_isBarred_13 : decode cX5_isBarred 13 = .ok (.iconst 1, 1) := by decide +kernel
theorem dX5_isBarred_14 : decode cX5_isBarred 14 = .ok (.putfield 78, 3) := by decide +kernel
theorem dX5_isBarred_17 : decode cX5_isBarred 17 = .ok (.aload_n 0, 1) := by decide +kernel
theorem dX5_isBarred_18 : decode cX5_isBarred 18 = .ok (.getfield 78, 3) := by decide +kernel
theorem dX5_isBarred_21 : decode cX5_isBarred 21 = .ok (.ifCond .ne 16, 3) := by decide +kernel
theorem dX5_isBarred_24 : decode cX5_isBarred 24 = .ok (.aload_n 0, 1) := by decide +kernel
theorem dX5_isBarred_25 : decode cX5_isBarred 25 = .ok (.iload_n 1, 1) := by decide +kernel
theorem dX5_isBarred_26 : decode cX5_isBarred 26 = .ok (.iload_n 2, 1) := by decide +kernel
theorem dX5_isBarred_27 : decode cX5_isBarred 27 = .ok (.invokevirtual 113, 3) := by decide +kernel
theorem dX5_isBarred_30 : decode cX5_isBarred 30 = .ok (.ifCond .eq 7, 3) := by decide +kernel
theorem dX5_isBarred_33 : decode cX5_isBarred 33 = .ok (.iconst 1, 1) := by decide +kernel
theorem dX5_isBarred_34 : decode cX5_isBarred 34 = .ok (.goto 4, 3) := by decide +kernel
theorem dX5_isBarred_37 : decode cX5_isBarred 37 = .ok (.iconst 0, 1) := by decide +kernel
theorem dX5_isBarred_38 : decode cX5_isBarred 38 = .ok (.ireturn, 1) := by decide +kernel
theorem dX5_debt_0 : decode cX5_debt 0 = .ok (.aload_n 0, 1) := by decide +kernel
theorem dX5_debt_1 : decode cX5_debt 1 = .ok (.iload_n 1, 1) := by decide +kernel
theorem dX5_debt_2 : decode cX5_debt 2 = .ok (.iload_n 2, 1) := by decide +kernel
theorem dX5_debt_3 : decode cX5_debt 3 = .ok (.invokestatic 97, 3) := by decide +kernel
theorem dX5_debt_6 : decode cX5_debt 6 = .ok (.ifCond .eq 7, 3) := by decide +kernel
theorem dX5_debt_9 : decode cX5_debt 9 = .ok (.iconst 0, 1) := by decide +kernel
theorem dX5_debt_10 : decode cX5_debt 10 = .ok (.goto 4, 3) := by decide +kernel
theorem dX5_debt_13 : decode cX5_debt 13 = .ok (.iconst 1, 1) := by decide +kernel
theorem dX5_debt_14 : decode cX5_debt 14 = .ok (.putfield 78, 3) := by decide +kernel
theorem dX5_debt_17 : decode cX5_debt 17 = .ok (.aload_n 0, 1) := by decide +kernel
theorem dX5_debt_18 : decode cX5_debt 18 = .ok (.getfield 78, 3) := by decide +kernel
theorem dX5_debt_21 : decode cX5_debt 21 = .ok (.ifCond .le 7, 3) := by decide +kernel
theorem dX5_debt_24 : decode cX5_debt 24 = .ok (.lconst 0, 1) := by decide +kernel
theorem dX5_debt_25 : decode cX5_debt 25 = .ok (.goto 9, 3) := by decide +kernel
theorem dX5_debt_28 : decode cX5_debt 28 = .ok (.aload_n 0, 1) := by decide +kernel
theorem dX5_debt_29 : decode cX5_debt 29 = .ok (.iload_n 1, 1) := by decide +kernel
theorem dX5_debt_30 : decode cX5_debt 30 = .ok (.iload_n 2, 1) := by decide +kernel
theorem dX5_debt_31 : decode cX5_debt 31 = .ok (.invokevirtual 109, 3) := by decide +kernel
theorem dX5_debt_34 : decode cX5_debt 34 = .ok (.lreturn, 1) := by decide +kernel
theorem dX5_charged_0 : decode cX5_charged 0 = .ok (.aload_n 0, 1) := by decide +kernel
theorem dX5_charged_1 : decode cX5_charged 1 = .ok (.iload_n 1, 1) := by decide +kernel
theorem dX5_charged_2 : decode cX5_charged 2 = .ok (.iload_n 2, 1) := by decide +kernel
theorem dX5_charged_3 : decode cX5_charged 3 = .ok (.invokestatic 97, 3) := by decide +kernel
theorem dX5_charged_6 : decode cX5_charged 6 = .ok (.ifCond .eq 7, 3) := by decide +kernel
theorem dX5_charged_9 : decode cX5_charged 9 = .ok (.iconst 0, 1) := by decide +kernel
theorem dX5_charged_10 : decode cX5_charged 10 = .ok (.goto 4, 3) := by decide +kernel
theorem dX5_charged_13 : decode cX5_charged 13 = .ok (.iconst 1, 1) := by decide +kernel
theorem dX5_charged_14 : decode cX5_charged 14 = .ok (.putfield 78, 3) := by decide +kernel
theorem dX5_charged_17 : decode cX5_charged 17 = .ok (.aload_n 0, 1) := by decide +kernel
theorem dX5_charged_18 : decode cX5_charged 18 = .ok (.getfield 78, 3) := by decide +kernel
theorem dX5_charged_21 : decode cX5_charged 21 = .ok (.ifCond .le 7, 3) := by decide +kernel
theorem dX5_charged_24 : decode cX5_charged 24 = .ok (.lconst 0, 1) := by decide +kernel
theorem dX5_charged_25 : decode cX5_charged 25 = .ok (.goto 13, 3) := by decide +kernel
theorem dX5_charged_28 : decode cX5_charged 28 = .ok (.aload_n 0, 1) := by decide +kernel
theorem dX5_charged_29 : decode cX5_charged 29 = .ok (.getfield 26, 3) := by decide +kernel
theorem dX5_charged_32 : decode cX5_charged 32 = .ok (.iconst 5, 1) := by decide +kernel
theorem dX5_charged_33 : decode cX5_charged 33 = .ok (.iload_n 1, 1) := by decide +kernel
theorem dX5_charged_34 : decode cX5_charged 34 = .ok (.imul, 1) := by decide +kernel
theorem dX5_charged_35 : decode cX5_charged 35 = .ok (.iload_n 2, 1) := by decide +kernel
theorem dX5_charged_36 : decode cX5_charged 36 = .ok (.iadd, 1) := by decide +kernel
theorem dX5_charged_37 : decode cX5_charged 37 = .ok (.laload, 1) := by decide +kernel
theorem dX5_charged_38 : decode cX5_charged 38 = .ok (.lreturn, 1) := by decide +kernel
theorem dX5_position_0 : decode cX5_position 0 = .ok (.aload_n 0, 1) := by decide +kernel
theorem dX5_position_1 : decode cX5_position 1 = .ok (.iload_n 1, 1) := by decide +kernel
theorem dX5_position_2 : decode cX5_position 2 = .ok (.invokestatic 86, 3) := by decide +kernel
theorem dX5_position_5 : decode cX5_position 5 = .ok (.ifCond .eq 7, 3) := by decide +kernel
theorem dX5_position_8 : decode cX5_position 8 = .ok (.iconst 0, 1) := by decide +kernel
theorem dX5_position_9 : decode cX5_position 9 = .ok (.goto 4, 3) := by decide +kernel
theorem dX5_position_12 : decode cX5_position 12 = .ok (.iconst 1, 1) := by decide +kernel
theorem dX5_position_13 : decode cX5_position 13 = .ok (.putfield 78, 3) := by decide +kernel
theorem dX5_position_16 : decode cX5_position 16 = .ok (.lconst 0, 1) := by decide +kernel
theorem dX5_position_17 : decode cX5_position 17 = .ok (.lstore_n 2, 1) := by decide +kernel
theorem dX5_position_18 : decode cX5_position 18 = .ok (.iconst 0, 1) := by decide +kernel
theorem dX5_position_19 : decode cX5_position 19 = .ok (.istore 4, 2) := by decide +kernel
theorem dX5_position_21 : decode cX5_position 21 = .ok (.iload 4, 2) := by decide +kernel
theorem dX5_position_23 : decode cX5_position 23 = .ok (.iconst 5, 1) := by decide +kernel
theorem dX5_position_24 : decode cX5_position 24 = .ok (.if_icmp .ge 26, 3) := by decide +kernel
theorem dX5_position_27 : decode cX5_position 27 = .ok (.aload_n 0, 1) := by decide +kernel
theorem dX5_position_28 : decode cX5_position 28 = .ok (.getfield 78, 3) := by decide +kernel
theorem dX5_position_31 : decode cX5_position 31 = .ok (.ifCond .ne 19, 3) := by decide +kernel
theorem dX5_position_34 : decode cX5_position 34 = .ok (.lload_n 2, 1) := by decide +kernel
theorem dX5_position_35 : decode cX5_position 35 = .ok (.aload_n 0, 1) := by decide +kernel
theorem dX5_position_36 : decode cX5_position 36 = .ok (.iload 4, 2) := by decide +kernel
theorem dX5_position_38 : decode cX5_position 38 = .ok (.iload_n 1, 1) := by decide +kernel
theorem dX5_position_39 : decode cX5_position 39 = .ok (.invokevirtual 109, 3) := by decide +kernel
theorem dX5_position_42 : decode cX5_position 42 = .ok (.ladd, 1) := by decide +kernel
theorem dX5_position_43 : decode cX5_position 43 = .ok (.lstore_n 2, 1) := by decide +kernel
theorem dX5_position_44 : decode cX5_position 44 = .ok (.iinc 4 1, 3) := by decide +kernel
theorem dX5_position_47 : decode cX5_position 47 = .ok (.goto (-26), 3) := by decide +kernel
theorem dX5_position_50 : decode cX5_position 50 = .ok (.lload_n 2, 1) := by decide +kernel
theorem dX5_position_51 : decode cX5_position 51 = .ok (.lreturn, 1) := by decide +kernel
theorem dX5_settle_0 : decode cX5_settle 0 = .ok (.aload_n 0, 1) := by decide +kernel
theorem dX5_settle_1 : decode cX5_settle 1 = .ok (.iload_n 1, 1) := by decide +kernel
theorem dX5_settle_2 : decode cX5_settle 2 = .ok (.iload_n 2, 1) := by decide +kernel
theorem dX5_settle_3 : decode cX5_settle 3 = .ok (.invokestatic 97, 3) := by decide +kernel
theorem dX5_settle_6 : decode cX5_settle 6 = .ok (.ifCond .eq 7, 3) := by decide +kernel
theorem dX5_settle_9 : decode cX5_settle 9 = .ok (.iconst 0, 1) := by decide +kernel
theorem dX5_settle_10 : decode cX5_settle 10 = .ok (.goto 4, 3) := by decide +kernel
theorem dX5_settle_13 : decode cX5_settle 13 = .ok (.iconst 1, 1) := by decide +kernel
theorem dX5_settle_14 : decode cX5_settle 14 = .ok (.putfield 78, 3) := by decide +kernel
theorem dX5_settle_17 : decode cX5_settle 17 = .ok (.aload_n 0, 1) := by decide +kernel
theorem dX5_settle_18 : decode cX5_settle 18 = .ok (.getfield 78, 3) := by decide +kernel
theorem dX5_settle_21 : decode cX5_settle 21 = .ok (.ifCond .le 5, 3) := by decide +kernel
theorem dX5_settle_24 : decode cX5_settle 24 = .ok (.lconst 0, 1) := by decide +kernel
theorem dX5_settle_25 : decode cX5_settle 25 = .ok (.lreturn, 1) := by decide +kernel
theorem dX5_settle_26 : decode cX5_settle 26 = .ok (.aload_n 0, 1) := by decide +kernel
theorem dX5_settle_27 : decode cX5_settle 27 = .ok (.iload_n 1, 1) := by decide +kernel
theorem dX5_settle_28 : decode cX5_settle 28 = .ok (.iload_n 2, 1) := by decide +kernel
theorem dX5_settle_29 : decode cX5_settle 29 = .ok (.invokevirtual 109, 3) := by decide +kernel
theorem dX5_settle_32 : decode cX5_settle 32 = .ok (.lstore_n 3, 1) := by decide +kernel
theorem dX5_settle_33 : decode cX5_settle 33 = .ok (.aload_n 0, 1) := by decide +kernel
theorem dX5_settle_34 : decode cX5_settle 34 = .ok (.lload_n 3, 1) := by decide +kernel
theorem dX5_settle_35 : decode cX5_settle 35 = .ok (.lconst 0, 1) := by decide +kernel
theorem dX5_settle_36 : decode cX5_settle 36 = .ok (.lcmp, 1) := by decide +kernel
theorem dX5_settle_37 : decode cX5_settle 37 = .ok (.ifCond .le 7, 3) := by decide +kernel
theorem dX5_settle_40 : decode cX5_settle 40 = .ok (.iconst 0, 1) := by decide +kernel
theorem dX5_settle_41 : decode cX5_settle 41 = .ok (.goto 4, 3) := by decide +kernel
theorem dX5_settle_44 : decode cX5_settle 44 = .ok (.iconst 2, 1) := by decide +kernel
theorem dX5_settle_45 : decode cX5_settle 45 = .ok (.putfield 78, 3) := by decide +kernel
theorem dX5_settle_48 : decode cX5_settle 48 = .ok (.aload_n 0, 1) := by decide +kernel
theorem dX5_settle_49 : decode cX5_settle 49 = .ok (.getfield 78, 3) := by decide +kernel
theorem dX5_settle_52 : decode cX5_settle 52 = .ok (.ifCond .le 5, 3) := by decide +kernel
theorem dX5_settle_55 : decode cX5_settle 55 = .ok (.lconst 0, 1) := by decide +kernel
theorem dX5_settle_56 : decode cX5_settle 56 = .ok (.lreturn, 1) := by decide +kernel
theorem dX5_settle_57 : decode cX5_settle 57 = .ok (.aload_n 0, 1) := by decide +kernel
theorem dX5_settle_58 : decode cX5_settle 58 = .ok (.getfield 30, 3) := by decide +kernel
theorem dX5_settle_61 : decode cX5_settle 61 = .ok (.iconst 5, 1) := by decide +kernel
theorem dX5_settle_62 : decode cX5_settle 62 = .ok (.iload_n 1, 1) := by decide +kernel
theorem dX5_settle_63 : decode cX5_settle 63 = .ok (.imul, 1) := by decide +kernel
theorem dX5_settle_64 : decode cX5_settle 64 = .ok (.iload_n 2, 1) := by decide +kernel
theorem dX5_settle_65 : decode cX5_settle 65 = .ok (.iadd, 1) := by decide +kernel
theorem dX5_settle_66 : decode cX5_settle 66 = .ok (.dup2, 1) := by decide +kernel
theorem dX5_settle_67 : decode cX5_settle 67 = .ok (.laload, 1) := by decide +kernel
theorem dX5_settle_68 : decode cX5_settle 68 = .ok (.lload_n 3, 1) := by decide +kernel
theorem dX5_settle_69 : decode cX5_settle 69 = .ok (.ladd, 1) := by decide +kernel
theorem dX5_settle_70 : decode cX5_settle 70 = .ok (.lastore, 1) := by decide +kernel
theorem dX5_settle_71 : decode cX5_settle 71 = .ok (.lload_n 3, 1) := by decide +kernel
theorem dX5_settle_72 : decode cX5_settle 72 = .ok (.lreturn, 1) := by decide +kernel
