theorem dX10_init_0 : decode cX10_init 0 = .ok (.aload_n 0, 1) := by decide +kernel
theorem dX10_init_1 : decode cX10_init 1 = .ok (.invokespecial 1, 3) := by decide +kernel
theorem dX10_init_4 : decode cX10_init 4 = .ok (.aload_n 0, 1) := by decide +kernel
theorem dX10_init_5 : decode cX10_init 5 = .ok (.sipush 420, 3) := by decide +kernel
theorem dX10_init_8 : decode cX10_init 8 = .ok (.newarray .int, 2) := by decide +kernel
theorem dX10_init_10 : decode cX10_init 10 = .ok (.putfield 7, 3) := by decide +kernel
theorem dX10_init_13 : decode cX10_init 13 = .ok (.aload_n 0, 1) := by decide +kernel
theorem dX10_init_14 : decode cX10_init 14 = .ok (.sipush 2100, 3) := by decide +kernel
theorem dX10_init_17 : decode cX10_init 17 = .ok (.newarray .int, 2) := by decide +kernel
theorem dX10_init_19 : decode cX10_init 19 = .ok (.putfield 13, 3) := by decide +kernel
theorem dX10_init_22 : decode cX10_init 22 = .ok (.aload_n 0, 1) := by decide +kernel
theorem dX10_init_23 : decode cX10_init 23 = .ok (.bipush 100, 2) := by decide +kernel
theorem dX10_init_25 : decode cX10_init 25 = .ok (.newarray .int, 2) := by decide +kernel
theorem dX10_init_27 : decode cX10_init 27 = .ok (.putfield 16, 3) := by decide +kernel
theorem dX10_init_30 : decode cX10_init 30 = .ok (.aload_n 0, 1) := by decide +kernel
theorem dX10_init_31 : decode cX10_init 31 = .ok (.iconst 4, 1) := by decide +kernel
theorem dX10_init_32 : decode cX10_init 32 = .ok (.newarray .int, 2) := by decide +kernel
theorem dX10_init_34 : decode cX10_init 34 = .ok (.putfield 19, 3) := by decide +kernel
theorem dX10_init_37 : decode cX10_init 37 = .ok (.aload_n 0, 1) := by decide +kernel
theorem dX10_init_38 : decode cX10_init 38 = .ok (.sipush 1200, 3) := by decide +kernel
theorem dX10_init_41 : decode cX10_init 41 = .ok (.newarray .int, 2) := by decide +kernel
theorem dX10_init_43 : decode cX10_init 43 = .ok (.putfield 22, 3) := by decide +kernel
theorem dX10_init_46 : decode cX10_init 46 = .ok (.aload_n 0, 1) := by decide +kernel
theorem dX10_init_47 : decode cX10_init 47 = .ok (.sipush 1200, 3) := by decide +kernel
theorem dX10_init_50 : decode cX10_init 50 = .ok (.newarray .long, 2) := by decide +kernel
theorem dX10_init_52 : decode cX10_init 52 = .ok (.putfield 25, 3) := by decide +kernel
theorem dX10_init_55 : decode cX10_init 55 = .ok (.aload_n 0, 1) := by decide +kernel
theorem dX10_init_56 : decode cX10_init 56 = .ok (.sipush 1200, 3) := by decide +kernel
theorem dX10_init_59 : decode cX10_init 59 = .ok (.newarray .long, 2) := by decide +kernel
theorem dX10_init_61 : decode cX10_init 61 = .ok (.putfield 29, 3) := by decide +kernel
theorem dX10_init_64 : decode cX10_init 64 = .ok (.aload_n 0, 1) := by decide +kernel
theorem dX10_init_65 : decode cX10_init 65 = .ok (.sipush 1200, 3) := by decide +kernel
theorem dX10_init_68 : decode cX10_init 68 = .ok (.newarray .int, 2) := by decide +kernel
theorem dX10_init_70 : decode cX10_init 70 = .ok (.putfield 32, 3) := by decide +kernel
theorem dX10_init_73 : decode cX10_init 73 = .ok (.aload_n 0, 1) := by decide +kernel
theorem dX10_init_74 : decode cX10_init 74 = .ok (.sipush 1200, 3) := by decide +kernel
theorem dX10_init_77 : decode cX10_init 77 = .ok (.newarray .int, 2) := by decide +kernel
theorem dX10_init_79 : decode cX10_init 79 = .ok (.putfield 35, 3) := by decide +kernel
theorem dX10_init_82 : decode cX10_init 82 = .ok (.aload_n 0, 1) := by decide +kernel
theorem dX10_init_83 : decode cX10_init 83 = .ok (.sipush 1200, 3) := by decide +kernel
theorem dX10_init_86 : decode cX10_init 86 = .ok (.newarray .int, 2) := by decide +kernel
theorem dX10_init_88 : decode cX10_init 88 = .ok (.putfield 38, 3) := by decide +kernel
theorem dX10_init_91 : decode cX10_init 91 = .ok (.aload_n 0, 1) := by decide +kernel
theorem dX10_init_92 : decode cX10_init 92 = .ok (.iconst 4, 1) := by decide +kernel
theorem dX10_init_93 : decode cX10_init 93 = .ok (.newarray .int, 2) := by decide +kernel
theorem dX10_init_95 : decode cX10_init 95 = .ok (.putfield 41, 3) := by decide +kernel
theorem dX10_init_98 : decode cX10_init 98 = .ok (.aload_n 0, 1) := by decide +kernel
theorem dX10_init_99 : decode cX10_init 99 = .ok (.iconst 4, 1) := by decide +kernel
theorem dX10_init_100 : decode cX10_init 100 = .ok (.newarray .long, 2) := by decide +kernel
theorem dX10_init_102 : decode cX10_init 102 = .ok (.putfield 44, 3) := by decide +kernel
theorem dX10_init_105 : decode cX10_init 105 = .ok (.aload_n 0, 1) := by decide +kernel
theorem dX10_init_106 : decode cX10_init 106 = .ok (.iconst 4, 1) := by decide +kernel
theorem dX10_init_107 : decode cX10_init 107 = .ok (.newarray .int, 2) := by decide +kernel
theorem dX10_init_109 : decode cX10_init 109 = .ok (.putfield 47, 3) := by decide +kernel
theorem dX10_init_112 : decode cX10_init 112 = .ok (.aload_n 0, 1) := by decide +kernel
theorem dX10_init_113 : decode cX10_init 113 = .ok (.sipush 1200, 3) := by decide +kernel
theorem dX10_init_116 : decode cX10_init 116 = .ok (.newarray .long, 2) := by decide +kernel
theorem dX10_init_118 : decode cX10_init 118 = .ok (.putfield 50, 3) := by decide +kernel
theorem dX10_init_121 : decode cX10_init 121 = .ok (.aload_n 0, 1) := by decide +kernel
theorem dX10_init_122 : decode cX10_init 122 = .ok (.sipush 1200, 3) := by decide +kernel
theorem dX10_init_125 : decode cX10_init 125 = .ok (.newarray .boolean, 2) := by decide +kernel
theorem dX10_init_127 : decode cX10_init 127 = .ok (.putfield 53, 3) := by decide +kernel
theorem dX10_init_130 : decode cX10_init 130 = .ok (.aload_n 0, 1) := by decide +kernel
theorem dX10_init_131 : decode cX10_init 131 = .ok (.iconst 3, 1) := by decide +kernel
theorem dX10_init_132 : decode cX10_init 132 = .ok (.newarray .int, 2) := by decide +kernel
theorem dX10_init_134 : decode cX10_init 134 = .ok (.putfield 57, 3) := by decide +kernel
theorem dX10_init_137 : decode cX10_init 137 = .ok (.aload_n 0, 1) := by decide +kernel
theorem dX10_init_138 : decode cX10_init 138 = .ok (.iconst 3, 1) := by decide +kernel
theorem dX10_init_139 : decode cX10_init 139 = .ok (.newarray .int, 2) := by decide +kernel
theorem dX10_init_141 : decode cX10_init 141 = .ok (.putfield 60, 3) := by decide +kernel
theorem dX10_init_144 : decode cX10_init 144 = .ok (.aload_n 0, 1) := by decide +kernel
theorem dX10_init_145 : decode cX10_init 145 = .ok (.bipush 101, 2) := by decide +kernel
theorem dX10_init_147 : decode cX10_init 147 = .ok (.newarray .int, 2) := by decide +kernel
theorem dX10_init_149 : decode cX10_init 149 = .ok (.putfield 63, 3) := by decide +kernel
theorem dX10_init_152 : decode cX10_init 152 = .ok (.aload_n 0, 1) := by decide +kernel
theorem dX10_init_153 : decode cX10_init 153 = .ok (.bipush 100, 2) := by decide +kernel
theorem dX10_init_155 : decode cX10_init 155 = .ok (.newarray .int, 2) := by decide +kernel
theorem dX10_init_157 : decode cX10_init 157 = .ok (.putfield 66, 3) := by decide +kernel
theorem dX10_init_160 : decode cX10_init 160 = .ok (.aload_n 0, 1) := by decide +kernel
theorem dX10_init_161 : decode cX10_init 161 = .ok (.iconst 4, 1) := by decide +kernel
theorem dX10_init_162 : decode cX10_init 162 = .ok (.newarray .int, 2) := by decide +kernel
theorem dX10_init_164 : decode cX10_init 164 = .ok (.putfield 69, 3) := by decide +kernel
theorem dX10_init_167 : decode cX10_init 167 = .ok (.aload_n 0, 1) := by decide +kernel
theorem dX10_init_168 : decode cX10_init 168 = .ok (.getfield 7, 3) := by decide +kernel
theorem dX10_init_171 : decode cX10_init 171 = .ok (.sipush 404, 3) := by decide +kernel
theorem dX10_init_174 : decode cX10_init 174 = .ok (.iconst 4, 1) := by decide +kernel
theorem dX10_init_175 : decode cX10_init 175 = .ok (.iastore, 1) := by decide +kernel
theorem dX10_init_176 : decode cX10_init 176 = .ok (.aload_n 0, 1) := by decide +kernel
theorem dX10_init_177 : decode cX10_init 177 = .ok (.getfield 7, 3) := by decide +kernel
theorem dX10_init_180 : decode cX10_init 180 = .ok (.sipush 405, 3) := by decide +kernel
theorem dX10_init_183 : decode cX10_init 183 = .ok (.iconst 4, 1) := by decide +kernel
theorem dX10_init_184 : decode cX10_init 184 = .ok (.iastore, 1) := by decide +kernel
theorem dX10_init_185 : decode cX10_init 185 = .ok (.aload_n 0, 1) := by decide +kernel
theorem dX10_init_186 : decode cX10_init 186 = .ok (.getfield 7, 3) := by decide +kernel
theorem dX10_init_189 : decode cX10_init 189 = .ok (.sipush 406, 3) := by decide +kernel
theorem dX10_init_192 : decode cX10_init 192 = .ok (.iconst 1, 1) := by decide +kernel
theorem dX10_init_193 : decode cX10_init 193 = .ok (.iastore, 1) := by decide +kernel
theorem dX10_init_194 : decode cX10_init 194 = .ok (.aload_n 0, 1) := by decide +kernel
theorem dX10_init_195 : decode cX10_init 195 = .ok (.getfield 7, 3) := by decide +kernel
theorem dX10_init_198 : decode cX10_init 198 = .ok (.sipush 407, 3) := by decide +kernel
theorem dX10_init_201 : decode cX10_init 201 = .ok (.iconst 1, 1) := by decide +kernel
theorem dX10_init_202 : decode cX10_init 202 = .ok (.iastore, 1) := by decide +kernel
theorem dX10_init_203 : decode cX10_init 203 = .ok (.return_, 1) := by decide +kernel
theorem dX10_in_0 : decode cX10_in 0 = .ok (.iload_n 0, 1) := by decide +kernel
theorem dX10_in_1 : decode cX10_in 1 = .ok (.iload_n 1, 1) := by decide +kernel
theorem dX10_in_2 : decode cX10_in 2 = .ok (.if_icmp .lt 12, 3) := by decide +kernel
theorem dX10_in_5 : decode cX10_in 5 = .ok (.iload_n 0, 1) := by decide +kernel
theorem dX10_in_6 : decode cX10_in 6 = .ok (.iload_n 2, 1) := by decide +kernel
theorem dX10_in_7 : decode cX10_in 7 = .ok (.if_icmp .gt 7, 3) := by decide +kernel
theorem dX10_in_10 : decode cX10_in 10 = .ok (.iconst 1, 1) := by decide +kernel
theorem dX10_in_11 : decode cX10_in 11 = .ok (.goto 4, 3) := by decide +kernel
theorem dX10_in_14 : decode cX10_in 14 = .ok (.iconst 0, 1) := by decide +kernel
theorem dX10_in_15 : decode cX10_in 15 = .ok (.ireturn, 1) := by decide +kernel
theorem dX10_act_0 : decode cX10_act 0 = .ok (.aload_n 0, 1) := by decide +kernel
theorem dX10_act_1 : decode cX10_act 1 = .ok (.getfield 72, 3) := by decide +kernel
theorem dX10_act_4 : decode cX10_act 4 = .ok (.iconst 5, 1) := by decide +kernel
theorem dX10_act_5 : decode cX10_act 5 = .ok (.if_icmp .ne 44, 3) := by decide +kernel
theorem dX10_act_8 : decode cX10_act 8 = .ok (.iconst 0, 1) := by decide +kernel
theorem dX10_act_9 : decode cX10_act 9 = .ok (.istore_n 1, 1) := by decide +kernel
theorem dX10_act_10 : decode cX10_act 10 = .ok (.iload_n 1, 1) := by decide +kernel
theorem dX10_act_11 : decode cX10_act 11 = .ok (.sipush 1680, 3) := by decide +kernel
theorem dX10_act_14 : decode cX10_act 14 = .ok (.if_icmp .ge 25, 3) := by decide +kernel
theorem dX10_act_17 : decode cX10_act 17 = .ok (.aload_n 0, 1) := by decide +kernel
theorem dX10_act_18 : decode cX10_act 18 = .ok (.getfield 13, 3) := by decide +kernel
theorem dX10_act_21 : decode cX10_act 21 = .ok (.iload_n 1, 1) := by decide +kernel
theorem dX10_act_22 : decode cX10_act 22 = .ok (.aload_n 0, 1) := by decide +kernel
theorem dX10_act_23 : decode cX10_act 23 = .ok (.getfield 13, 3) := by decide +kernel
theorem dX10_act_26 : decode cX10_act 26 = .ok (.iload_n 1, 1) := by decide +kernel
theorem dX10_act_27 : decode cX10_act 27 = .ok (.sipush 420, 3) := by decide +kernel
theorem dX10_act_30 : decode cX10_act 30 = .ok (.iadd, 1) := by decide +kernel
theorem dX10_act_31 : decode cX10_act 31 = .ok (.iaload, 1) := by decide +kernel
theorem dX10_act_32 : decode cX10_act 32 = .ok (.iastore, 1) := by decide +kernel
theorem dX10_act_33 : decode cX10_act 33 = .ok (.iinc 1 1, 3) := by decide +kernel
theorem dX10_act_36 : decode cX10_act 36 = .ok (.goto (-26), 3) := by decide +kernel
theorem dX10_act_39 : decode cX10_act 39 = .ok (.aload_n 0, 1) := by decide +kernel
theorem dX10_act_40 : decode cX10_act 40 = .ok (.dup, 1) := by decide +kernel
theorem dX10_act_41 : decode cX10_act 41 = .ok (.getfield 72, 3) := by decide +kernel
theorem dX10_act_44 : decode cX10_act 44 = .ok (.iconst 1, 1) := by decide +kernel
theorem dX10_act_45 : decode cX10_act 45 = .ok (.isub, 1) := by decide +kernel
theorem dX10_act_46 : decode cX10_act 46 = .ok (.putfield 72, 3) := by decide +kernel
theorem dX10_act_49 : decode cX10_act 49 = .ok (.iconst 0, 1) := by decide +kernel
theorem dX10_act_50 : decode cX10_act 50 = .ok (.istore_n 1, 1) := by decide +kernel
theorem dX10_act_51 : decode cX10_act 51 = .ok (.iload_n 1, 1) := by decide +kernel
theorem dX10_act_52 : decode cX10_act 52 = .ok (.sipush 420, 3) := by decide +kernel
theorem dX10_act_55 : decode cX10_act 55 = .ok (.if_icmp .ge 30, 3) := by decide +kernel
theorem dX10_act_58 : decode cX10_act 58 = .ok (.aload_n 0, 1) := by decide +kernel
theorem dX10_act_59 : decode cX10_act 59 = .ok (.getfield 13, 3) := by decide +kernel
theorem dX10_act_62 : decode cX10_act 62 = .ok (.sipush 420, 3) := by decide +kernel
theorem dX10_act_65 : decode cX10_act 65 = .ok (.aload_n 0, 1) := by decide +kernel
theorem dX10_act_66 : decode cX10_act 66 = .ok (.getfield 72, 3) := by decide +kernel
theorem dX10_act_69 : decode cX10_act 69 = .ok (.imul, 1) := by decide +kernel
theorem dX10_act_70 : decode cX10_act 70 = .ok (.iload_n 1, 1) := by decide +kernel
theorem dX10_act_71 : decode cX10_act 71 = .ok (.iadd, 1) := by decide +kernel
theorem dX10_act_72 : decode cX10_act 72 = .ok (.aload_n 0, 1) := by decide +kernel
theorem dX10_act_73 : decode cX10_act 73 = .ok (.getfield 7, 3) := by decide +kernel
theorem dX10_act_76 : decode cX10_act 76 = .ok (.iload_n 1, 1) := by decide +kernel
theorem dX10_act_77 : decode cX10_act 77 = .ok (.iaload, 1) := by decide +kernel
theorem dX10_act_78 : decode cX10_act 78 = .ok (.iastore, 1) := by decide +kernel
theorem dX10_act_79 : decode cX10_act 79 = .ok (.iinc 1 1, 3) := by decide +kernel
theorem dX10_act_82 : decode cX10_act 82 = .ok (.goto (-31), 3) := by decide +kernel
theorem dX10_act_85 : decode cX10_act 85 = .ok (.aload_n 0, 1) := by decide +kernel
theorem dX10_act_86 : decode cX10_act 86 = .ok (.dup, 1) := by decide +kernel
theorem dX10_act_87 : decode cX10_act 87 = .ok (.getfield 72, 3) := by decide +kernel
theorem dX10_act_90 : decode cX10_act 90 = .ok (.iconst 1, 1) := by decide +kernel
theorem dX10_act_91 : decode cX10_act 91 = .ok (.iadd, 1) := by decide +kernel
theorem dX10_act_92 : decode cX10_act 92 = .ok (.putfield 72, 3) := by decide +kernel
theorem dX10_act_95 : decode cX10_act 95 = .ok (.return_, 1) := by decide +kernel
theorem dX10_isPart_0 : decode cX10_isPart 0 = .ok (.iload_n 0, 1) := by decide +kernel
theorem dX10_isPart_1 : decode cX10_isPart 1 = .ok (.iconst 0, 1) := by decide +kernel
theorem dX10_isPart_2 : decode cX10_isPart 2 = .ok (.iconst 3, 1) := by decide +kernel
theorem dX10_isPart_3 : decode cX10_isPart 3 = .ok (.invokestatic 76, 3) := by decide +kernel
theorem dX10_isPart_6 : decode cX10_isPart 6 = .ok (.ireturn, 1) := by decide +kernel
theorem dX10_halvings_0 : decode cX10_halvings 0 = .ok (.iload_n 0, 1) := by decide +kernel
theorem dX10_halvings_1 : decode cX10_halvings 1 = .ok (.bipush 119, 2) := by decide +kernel
theorem dX10_halvings_3 : decode cX10_halvings 3 = .ok (.if_icmp .ne 7, 3) := by decide +kernel
theorem dX10_halvings_6 : decode cX10_halvings 6 = .ok (.iconst 0, 1) := by decide +kernel
theorem dX10_halvings_7 : decode cX10_halvings 7 = .ok (.goto 54, 3) := by decide +kernel
theorem dX10_halvings_10 : decode cX10_halvings 10 = .ok (.iload_n 0, 1) := by decide +kernel
theorem dX10_halvings_11 : decode cX10_halvings 11 = .ok (.bipush 104, 2) := by decide +kernel
theorem dX10_halvings_13 : decode cX10_halvings 13 = .ok (.if_icmp .ne 7, 3) := by decide +kernel
theorem dX10_halvings_16 : decode cX10_halvings 16 = .ok (.iconst 1, 1) := by decide +kernel
theorem dX10_halvings_17 : decode cX10_halvings 17 = .ok (.goto 44, 3) := by decide +kernel
theorem dX10_halvings_20 : decode cX10_halvings 20 = .ok (.iload_n 0, 1) := by decide +kernel
theorem dX10_halvings_21 : decode cX10_halvings 21 = .ok (.bipush 113, 2) := by decide +kernel
theorem dX10_halvings_23 : decode cX10_halvings 23 = .ok (.if_icmp .ne 7, 3) := by decide +kernel
theorem dX10_halvings_26 : decode cX10_halvings 26 = .ok (.iconst 2, 1) := by decide +kernel
theorem dX10_halvings_27 : decode cX10_halvings 27 = .ok (.goto 34, 3) := by decide +kernel
theorem dX10_halvings_30 : decode cX10_halvings 30 = .ok (.iload_n 0, 1) := by decide +kernel
theorem dX10_halvings_31 : decode cX10_halvings 31 = .ok (.bipush 101, 2) := by decide +kernel
theorem dX10_halvings_33 : decode cX10_halvings 33 = .ok (.if_icmp .ne 7, 3) := by decide +kernel
theorem dX10_halvings_36 : decode cX10_halvings 36 = .ok (.iconst 3, 1) := by decide +kernel
theorem dX10_halvings_37 : decode cX10_halvings 37 = .ok (.goto 24, 3) := by decide +kernel
theorem dX10_halvings_40 : decode cX10_halvings 40 = .ok (.iload_n 0, 1) := by decide +kernel
theorem dX10_halvings_41 : decode cX10_halvings 41 = .ok (.bipush 115, 2) := by decide +kernel
theorem dX10_halvings_43 : decode cX10_halvings 43 = .ok (.if_icmp .ne 7, 3) := by decide +kernel
theorem dX10_halvings_46 : decode cX10_halvings 46 = .ok (.iconst 4, 1) := by decide +kernel
theorem dX10_halvings_47 : decode cX10_halvings 47 = .ok (.goto 14, 3) := by decide +kernel
theorem dX10_halvings_50 : decode cX10_halvings 50 = .ok (.iload_n 0, 1) := by decide +kernel
theorem dX10_halvings_51 : decode cX10_halvings 51 = .ok (.bipush 116, 2) := by decide +kernel
theorem dX10_halvings_53 : decode cX10_halvings 53 = .ok (.if_icmp .ne 7, 3) := by decide +kernel
theorem dX10_halvings_56 : decode cX10_halvings 56 = .ok (.iconst 5, 1) := by decide +kernel
theorem dX10_halvings_57 : decode cX10_halvings 57 = .ok (.goto 4, 3) := by decide +kernel
theorem dX10_halvings_60 : decode cX10_halvings 60 = .ok (.iconst (-1), 1) := by decide +kernel
theorem dX10_halvings_61 : decode cX10_halvings 61 = .ok (.ireturn, 1) := by decide +kernel
theorem dX10_isDigit_0 : decode cX10_isDigit 0 = .ok (.iload_n 0, 1) := by decide +kernel
theorem dX10_isDigit_1 : decode cX10_isDigit 1 = .ok (.bipush 48, 2) := by decide +kernel
theorem dX10_isDigit_3 : decode cX10_isDigit 3 = .ok (.iload_n 1, 1) := by decide +kernel
theorem dX10_isDigit_4 : decode cX10_isDigit 4 = .ok (.iadd, 1) := by decide +kernel
theorem dX10_isDigit_5 : decode cX10_isDigit 5 = .ok (.bipush 57, 2) := by decide +kernel
theorem dX10_isDigit_7 : decode cX10_isDigit 7 = .ok (.invokestatic 76, 3) := by decide +kernel
theorem dX10_isDigit_10 : decode cX10_isDigit 10 = .ok (.ireturn, 1) := by decide +kernel
theorem dX10_begins_0 : decode cX10_begins 0 = .ok (.aload_n 0, 1) := by decide +kernel
theorem dX10_begins_1 : decode cX10_begins 1 = .ok (.iconst 0, 1) := by decide +kernel
theorem dX10_begins_2 : decode cX10_begins 2 = .ok (.putfield 80, 3) := by decide +kernel
theorem dX10_begins_5 : decode cX10_begins 5 = .ok (.iload_n 1, 1) := by decide +kernel
theorem dX10_begins_6 : decode cX10_begins 6 = .ok (.bipush 94, 2) := by decide +kernel
theorem dX10_begins_8 : decode cX10_begins 8 = .ok (.if_icmp .ne 10, 3) := by decide +kernel
theorem dX10_begins_11 : decode cX10_begins 11 = .ok (.aload_n 0, 1) := by decide +kernel
theorem dX10_begins_12 : decode cX10_begins 12 = .ok (.iconst 1, 1) := by decide +kernel
theorem dX10_begins_13 : decode cX10_begins 13 = .ok (.putfield 80, 3) := by decide +kernel
theorem dX10_begins_16 : decode cX10_begins 16 = .ok (.iconst 1, 1) := by decide +kernel
theorem dX10_begins_17 : decode cX10_begins 17 = .ok (.ireturn, 1) := by decide +kernel
theorem dX10_begins_18 : decode cX10_begins 18 = .ok (.iload_n 1, 1) := by decide +kernel
theorem dX10_begins_19 : decode cX10_begins 19 = .ok (.invokestatic 83, 3) := by decide +kernel
theorem dX10_begins_22 : decode cX10_begins 22 = .ok (.ifCond .lt 28, 3) := by decide +kernel
theorem dX10_begins_25 : decode cX10_begins 25 = .ok (.aload_n 0, 1) := by decide +kernel
theorem dX10_begins_26 : decode cX10_begins 26 = .ok (.iconst 3, 1) := by decide +kernel
theorem dX10_begins_27 : decode cX10_begins 27 = .ok (.putfield 80, 3) := by decide +kernel
theorem dX10_begins_30 : decode cX10_begins 30 = .ok (.aload_n 0, 1) := by decide +kernel
theorem dX10_begins_31 : decode cX10_begins 31 = .ok (.iconst 0, 1) := by decide +kernel
theorem dX10_begins_32 : decode cX10_begins 32 = .ok (.putfield 87, 3) := by decide +kernel
theorem dX10_begins_35 : decode cX10_begins 35 = .ok (.aload_n 0, 1) := by decide +kernel
theorem dX10_begins_36 : decode cX10_begins 36 = .ok (.getfield 19, 3) := by decide +kernel
theorem dX10_begins_39 : decode cX10_begins 39 = .ok (.aload_n 0, 1) := by decide +kernel
theorem dX10_begins_40 : decode cX10_begins 40 = .ok (.getfield 90, 3) := by decide +kernel
theorem dX10_begins_43 : decode cX10_begins 43 = .ok (.dup2, 1) := by decide +kernel
theorem dX10_begins_44 : decode cX10_begins 44 = .ok (.iaload, 1) := by decide +kernel
theorem dX10_begins_45 : decode cX10_begins 45 = .ok (.iconst 1, 1) := by decide +kernel
theorem dX10_begins_46 : decode cX10_begins 46 = .ok (.iadd, 1) := by decide +kernel
theorem dX10_begins_47 : decode cX10_begins 47 = .ok (.iastore, 1) := by decide +kernel
theorem dX10_begins_48 : decode cX10_begins 48 = .ok (.iconst 1, 1) := by decide +kernel
theorem dX10_begins_49 : decode cX10_begins 49 = .ok (.ireturn, 1) := by decide +kernel
theorem dX10_begins_50 : decode cX10_begins 50 = .ok (.iload_n 1, 1) := by decide +kernel
theorem dX10_begins_51 : decode cX10_begins 51 = .ok (.bipush 114, 2) := by decide +kernel
theorem dX10_begins_53 : decode cX10_begins 53 = .ok (.if_icmp .ne 10, 3) := by decide +kernel
theorem dX10_begins_56 : decode cX10_begins 56 = .ok (.aload_n 0, 1) := by decide +kernel
theorem dX10_begins_57 : decode cX10_begins 57 = .ok (.iconst 2, 1) := by decide +kernel
theorem dX10_begins_58 : decode cX10_begins 58 = .ok (.putfield 80, 3) := by decide +kernel
theorem dX10_begins_61 : decode cX10_begins 61 = .ok (.iconst 1, 1) := by decide +kernel
theorem dX10_begins_62 : decode cX10_begins 62 = .ok (.ireturn, 1) := by decide +kernel
theorem dX10_begins_63 : decode cX10_begins 63 = .ok (.iload_n 1, 1) := by decide +kernel
theorem dX10_begins_64 : decode cX10_begins 64 = .ok (.bipush 123, 2) := by decide +kernel
theorem dX10_begins_66 : decode cX10_begins 66 = .ok (.if_icmp .ne 38, 3) := by decide +kernel
theorem dX10_begins_69 : decode cX10_begins 69 = .ok (.aload_n 0, 1) := by decide +kernel
theorem dX10_begins_70 : decode cX10_begins 70 = .ok (.getfield 90, 3) := by decide +kernel
theorem dX10_begins_73 : decode cX10_begins 73 = .ok (.iconst 2, 1) := by decide +kernel
theorem dX10_begins_74 : decode cX10_begins 74 = .ok (.if_icmp .ge 30, 3) := by decide +kernel
theorem dX10_begins_77 : decode cX10_begins 77 = .ok (.aload_n 0, 1) := by decide +kernel
theorem dX10_begins_78 : decode cX10_begins 78 = .ok (.dup, 1) := by decide +kernel
theorem dX10_begins_79 : decode cX10_begins 79 = .ok (.getfield 90, 3) := by decide +kernel
theorem dX10_begins_82 : decode cX10_begins 82 = .ok (.iconst 1, 1) := by decide +kernel
theorem dX10_begins_83 : decode cX10_begins 83 = .ok (.iadd, 1) := by decide +kernel
theorem dX10_begins_84 : decode cX10_begins 84 = .ok (.putfield 90, 3) := by decide +kernel
theorem dX10_begins_87 : decode cX10_begins 87 = .ok (.aload_n 0, 1) := by decide +kernel
theorem dX10_begins_88 : decode cX10_begins 88 = .ok (.getfield 19, 3) := by decide +kernel
theorem dX10_begins_91 : decode cX10_begins 91 = .ok (.aload_n 0, 1) := by decide +kernel
theorem dX10_begins_92 : decode cX10_begins 92 = .ok (.getfield 90, 3) := by decide +kernel
theorem dX10_begins_95 : decode cX10_begins 95 = .ok (.iconst 0, 1) := by decide +kernel
theorem dX10_begins_96 : decode cX10_begins 96 = .ok (.iastore, 1) := by decide +kernel
theorem dX10_begins_97 : decode cX10_begins 97 = .ok (.aload_n 0, 1) := by decide +kernel
theorem dX10_begins_98 : decode cX10_begins 98 = .ok (.iconst 5, 1) := by decide +kernel
theorem dX10_begins_99 : decode cX10_begins 99 = .ok (.putfield 80, 3) := by decide +kernel
theorem dX10_begins_102 : decode cX10_begins 102 = .ok (.iconst 1, 1) := by decide +kernel
theorem dX10_begins_103 : decode cX10_begins 103 = .ok (.ireturn, 1) := by decide +kernel
theorem dX10_begins_104 : decode cX10_begins 104 = .ok (.iload_n 1, 1) := by decide +kernel
theorem dX10_begins_105 : decode cX10_begins 105 = .ok (.bipush 125, 2) := by decide +kernel
theorem dX10_begins_107 : decode cX10_begins 107 = .ok (.if_icmp .ne 47, 3) := by decide +kernel
theorem dX10_begins_110 : decode cX10_begins 110 = .ok (.aload_n 0, 1) := by decide +kernel
theorem dX10_begins_111 : decode cX10_begins 111 = .ok (.getfield 90, 3) := by decide +kernel
theorem dX10_begins_114 : decode cX10_begins 114 = .ok (.ifCond .le 40, 3) := by decide +kernel
theorem dX10_begins_117 : decode cX10_begins 117 = .ok (.aload_n 0, 1) := by decide +kernel
theorem dX10_begins_118 : decode cX10_begins 118 = .ok (.getfield 19, 3) := by decide +kernel
theorem dX10_begins_121 : decode cX10_begins 121 = .ok (.aload_n 0, 1) := by decide +kernel
theorem dX10_begins_122 : decode cX10_begins 122 = .ok (.getfield 90, 3) := by decide +kernel
theorem dX10_begins_125 : decode cX10_begins 125 = .ok (.iaload, 1) := by decide +kernel
theorem dX10_begins_126 : decode cX10_begins 126 = .ok (.ifCond .le 28, 3) := by decide +kernel
theorem dX10_begins_129 : decode cX10_begins 129 = .ok (.aload_n 0, 1) := by decide +kernel
theorem dX10_begins_130 : decode cX10_begins 130 = .ok (.dup, 1) := by decide +kernel
theorem dX10_begins_131 : decode cX10_begins 131 = .ok (.getfield 90, 3) := by decide +kernel
theorem dX10_begins_134 : decode cX10_begins 134 = .ok (.iconst 1, 1) := by decide +kernel
theorem dX10_begins_135 : decode cX10_begins 135 = .ok (.isub, 1) := by decide +kernel
theorem dX10_begins_136 : decode cX10_begins 136 = .ok (.putfield 90, 3) := by decide +kernel
theorem dX10_begins_139 : decode cX10_begins 139 = .ok (.aload_n 0, 1) := by decide +kernel
theorem dX10_begins_140 : decode cX10_begins 140 = .ok (.getfield 19, 3) := by decide +kernel
theorem dX10_begins_143 : decode cX10_begins 143 = .ok (.aload_n 0, 1) := by decide +kernel
theorem dX10_begins_144 : decode cX10_begins 144 = .ok (.getfield 90, 3) := by decide +kernel
theorem dX10_begins_147 : decode cX10_begins 147 = .ok (.dup2, 1) := by decide +kernel
theorem dX10_begins_148 : decode cX10_begins 148 = .ok (.iaload, 1) := by decide +kernel
theorem dX10_begins_149 : decode cX10_begins 149 = .ok (.iconst 1, 1) := by decide +kernel
theorem dX10_begins_150 : decode cX10_begins 150 = .ok (.iadd, 1) := by decide +kernel
theorem dX10_begins_151 : decode cX10_begins 151 = .ok (.iastore, 1) := by decide +kernel
theorem dX10_begins_152 : decode cX10_begins 152 = .ok (.iconst 1, 1) := by decide +kernel
theorem dX10_begins_153 : decode cX10_begins 153 = .ok (.ireturn, 1) := by decide +kernel
theorem dX10_begins_154 : decode cX10_begins 154 = .ok (.aload_n 0, 1) := by decide +kernel
theorem dX10_begins_155 : decode cX10_begins 155 = .ok (.getfield 90, 3) := by decide +kernel
theorem dX10_begins_158 : decode cX10_begins 158 = .ok (.ifCond .ne 15, 3) := by decide +kernel
theorem dX10_begins_161 : decode cX10_begins 161 = .ok (.aload_n 0, 1) := by decide +kernel
theorem dX10_begins_162 : decode cX10_begins 162 = .ok (.iload_n 1, 1) := by decide +kernel
theorem dX10_begins_163 : decode cX10_begins 163 = .ok (.invokevirtual 93, 3) := by decide +kernel
theorem dX10_begins_166 : decode cX10_begins 166 = .ok (.ifCond .eq 7, 3) := by decide +kernel
theorem dX10_begins_169 : decode cX10_begins 169 = .ok (.iconst 1, 1) := by decide +kernel
theorem dX10_begins_170 : decode cX10_begins 170 = .ok (.goto 4, 3) := by decide +kernel
theorem dX10_begins_173 : decode cX10_begins 173 = .ok (.iconst 0, 1) := by decide +kernel
theorem dX10_begins_174 : decode cX10_begins 174 = .ok (.ireturn, 1) := by decide +kernel
theorem dX10_outside_0 : decode cX10_outside 0 = .ok (.iload_n 1, 1) := by decide +kernel
theorem dX10_outside_1 : decode cX10_outside 1 = .ok (.bipush 124, 2) := by decide +kernel
theorem dX10_outside_3 : decode cX10_outside 3 = .ok (.if_icmp .ne 5, 3) := by decide +kernel
theorem dX10_outside_6 : decode cX10_outside 6 = .ok (.iconst 1, 1) := by decide +kernel
theorem dX10_outside_7 : decode cX10_outside 7 = .ok (.ireturn, 1) := by decide +kernel
theorem dX10_outside_8 : decode cX10_outside 8 = .ok (.iload_n 1, 1) := by decide +kernel
theorem dX10_outside_9 : decode cX10_outside 9 = .ok (.bipush 91, 2) := by decide +kernel
theorem dX10_outside_11 : decode cX10_outside 11 = .ok (.if_icmp .ne 17, 3) := by decide +kernel
theorem dX10_outside_14 : decode cX10_outside 14 = .ok (.aload_n 0, 1) := by decide +kernel
theorem dX10_outside_15 : decode cX10_outside 15 = .ok (.getfield 97, 3) := by decide +kernel
theorem dX10_outside_18 : decode cX10_outside 18 = .ok (.ifCond .ne 10, 3) := by decide +kernel
theorem dX10_outside_21 : decode cX10_outside 21 = .ok (.aload_n 0, 1) := by decide +kernel
theorem dX10_outside_22 : decode cX10_outside 22 = .ok (.iconst 1, 1) := by decide +kernel
theorem dX10_outside_23 : decode cX10_outside 23 = .ok (.putfield 97, 3) := by decide +kernel
theorem dX10_outside_26 : decode cX10_outside 26 = .ok (.iconst 1, 1) := by decide +kernel
theorem dX10_outside_27 : decode cX10_outside 27 = .ok (.ireturn, 1) := by decide +kernel
theorem dX10_outside_28 : decode cX10_outside 28 = .ok (.iload_n 1, 1) := by decide +kernel
theorem dX10_outside_29 : decode cX10_outside 29 = .ok (.bipush 47, 2) := by decide +kernel
theorem dX10_outside_31 : decode cX10_outside 31 = .ok (.if_icmp .ne 18, 3) := by decide +kernel
theorem dX10_outside_34 : decode cX10_outside 34 = .ok (.aload_n 0, 1) := by decide +kernel
theorem dX10_outside_35 : decode cX10_outside 35 = .ok (.getfield 97, 3) := by decide +kernel
theorem dX10_outside_38 : decode cX10_outside 38 = .ok (.ifCond .eq 11, 3) := by decide +kernel
theorem dX10_outside_41 : decode cX10_outside 41 = .ok (.aload_n 0, 1) := by decide +kernel
theorem dX10_outside_42 : decode cX10_outside 42 = .ok (.bipush 9, 2) := by decide +kernel
theorem dX10_outside_44 : decode cX10_outside 44 = .ok (.putfield 80, 3) := by decide +kernel
theorem dX10_outside_47 : decode cX10_outside 47 = .ok (.iconst 1, 1) := by decide +kernel
theorem dX10_outside_48 : decode cX10_outside 48 = .ok (.ireturn, 1) := by decide +kernel
theorem dX10_outside_49 : decode cX10_outside 49 = .ok (.iload_n 1, 1) := by decide +kernel
theorem dX10_outside_50 : decode cX10_outside 50 = .ok (.bipush 93, 2) := by decide +kernel
theorem dX10_outside_52 : decode cX10_outside 52 = .ok (.if_icmp .ne 23, 3) := by decide +kernel
theorem dX10_outside_55 : decode cX10_outside 55 = .ok (.aload_n 0, 1) := by decide +kernel
theorem dX10_outside_56 : decode cX10_outside 56 = .ok (.getfield 97, 3) := by decide +kernel
theorem dX10_outside_59 : decode cX10_outside 59 = .ok (.ifCond .eq 16, 3) := by decide +kernel
theorem dX10_outside_62 : decode cX10_outside 62 = .ok (.aload_n 0, 1) := by decide +kernel
theorem dX10_outside_63 : decode cX10_outside 63 = .ok (.iconst 0, 1) := by decide +kernel
theorem dX10_outside_64 : decode cX10_outside 64 = .ok (.putfield 97, 3) := by decide +kernel
theorem dX10_outside_67 : decode cX10_outside 67 = .ok (.aload_n 0, 1) := by decide +kernel
theorem dX10_outside_68 : decode cX10_outside 68 = .ok (.bipush 8, 2) := by decide +kernel
theorem dX10_outside_70 : decode cX10_outside 70 = .ok (.putfield 80, 3) := by decide +kernel
theorem dX10_outside_73 : decode cX10_outside 73 = .ok (.iconst 1, 1) := by decide +kernel
theorem dX10_outside_74 : decode cX10_outside 74 = .ok (.ireturn, 1) := by decide +kernel
theorem dX10_outside_75 : decode cX10_outside 75 = .ok (.iconst 0, 1) := by decide +kernel
theorem dX10_outside_76 : decode cX10_outside 76 = .ok (.ireturn, 1) := by decide +kernel
theorem dX10_dotted_0 : decode cX10_dotted 0 = .ok (.iload_n 1, 1) := by decide +kernel
theorem dX10_dotted_1 : decode cX10_dotted 1 = .ok (.bipush 46, 2) := by decide +kernel
theorem dX10_dotted_3 : decode cX10_dotted 3 = .ok (.if_icmp .ne 23, 3) := by decide +kernel
theorem dX10_dotted_6 : decode cX10_dotted 6 = .ok (.aload_n 0, 1) := by decide +kernel
theorem dX10_dotted_7 : decode cX10_dotted 7 = .ok (.getfield 87, 3) := by decide +kernel
theorem dX10_dotted_10 : decode cX10_dotted 10 = .ok (.iconst 2, 1) := by decide +kernel
theorem dX10_dotted_11 : decode cX10_dotted 11 = .ok (.if_icmp .ge 15, 3) := by decide +kernel
theorem dX10_dotted_14 : decode cX10_dotted 14 = .ok (.aload_n 0, 1) := by decide +kernel
theorem dX10_dotted_15 : decode cX10_dotted 15 = .ok (.dup, 1) := by decide +kernel
theorem dX10_dotted_16 : decode cX10_dotted 16 = .ok (.getfield 87, 3) := by decide +kernel
theorem dX10_dotted_19 : decode cX10_dotted 19 = .ok (.iconst 1, 1) := by decide +kernel
theorem dX10_dotted_20 : decode cX10_dotted 20 = .ok (.iadd, 1) := by decide +kernel
theorem dX10_dotted_21 : decode cX10_dotted 21 = .ok (.putfield 87, 3) := by decide +kernel
theorem dX10_dotted_24 : decode cX10_dotted 24 = .ok (.iconst 1, 1) := by decide +kernel
theorem dX10_dotted_25 : decode cX10_dotted 25 = .ok (.ireturn, 1) := by decide +kernel
theorem dX10_dotted_26 : decode cX10_dotted 26 = .ok (.iload_n 1, 1) := by decide +kernel
theorem dX10_dotted_27 : decode cX10_dotted 27 = .ok (.bipush 126, 2) := by decide +kernel
theorem dX10_dotted_29 : decode cX10_dotted 29 = .ok (.if_icmp .ne 18, 3) := by decide +kernel
theorem dX10_dotted_32 : decode cX10_dotted 32 = .ok (.aload_n 0, 1) := by decide +kernel
theorem dX10_dotted_33 : decode cX10_dotted 33 = .ok (.getfield 80, 3) := by decide +kernel
theorem dX10_dotted_36 : decode cX10_dotted 36 = .ok (.iconst 3, 1) := by decide +kernel
theorem dX10_dotted_37 : decode cX10_dotted 37 = .ok (.if_icmp .ne 10, 3) := by decide +kernel
theorem dX10_dotted_40 : decode cX10_dotted 40 = .ok (.aload_n 0, 1) := by decide +kernel
theorem dX10_dotted_41 : decode cX10_dotted 41 = .ok (.iconst 0, 1) := by decide +kernel
theorem dX10_dotted_42 : decode cX10_dotted 42 = .ok (.putfield 80, 3) := by decide +kernel
theorem dX10_dotted_45 : decode cX10_dotted 45 = .ok (.iconst 1, 1) := by decide +kernel
theorem dX10_dotted_46 : decode cX10_dotted 46 = .ok (.ireturn, 1) := by decide +kernel
theorem dX10_dotted_47 : decode cX10_dotted 47 = .ok (.aload_n 0, 1) := by decide +kernel
theorem dX10_dotted_48 : decode cX10_dotted 48 = .ok (.iload_n 1, 1) := by decide +kernel
theorem dX10_dotted_49 : decode cX10_dotted 49 = .ok (.invokevirtual 101, 3) := by decide +kernel
theorem dX10_dotted_52 : decode cX10_dotted 52 = .ok (.ireturn, 1) := by decide +kernel
theorem dX10_numbered_0 : decode cX10_numbered 0 = .ok (.aload_n 0, 1) := by decide +kernel
theorem dX10_numbered_1 : decode cX10_numbered 1 = .ok (.getfield 80, 3) := by decide +kernel
theorem dX10_numbered_4 : decode cX10_numbered 4 = .ok (.iconst 5, 1) := by decide +kernel
theorem dX10_numbered_5 : decode cX10_numbered 5 = .ok (.if_icmp .eq 12, 3) := by decide +kernel
theorem dX10_numbered_8 : decode cX10_numbered 8 = .ok (.aload_n 0, 1) := by decide +kernel
theorem dX10_numbered_9 : decode cX10_numbered 9 = .ok (.getfield 80, 3) := by decide +kernel
theorem dX10_numbered_12 : decode cX10_numbered 12 = .ok (.bipush 7, 2) := by decide +kernel
theorem dX10_numbered_14 : decode cX10_numbered 14 = .ok (.if_icmp .ne 27, 3) := by decide +kernel
theorem dX10_numbered_17 : decode cX10_numbered 17 = .ok (.aload_n 0, 1) := by decide +kernel
theorem dX10_numbered_18 : decode cX10_numbered 18 = .ok (.aload_n 0, 1) := by decide +kernel
theorem dX10_numbered_19 : decode cX10_numbered 19 = .ok (.getfield 80, 3) := by decide +kernel
theorem dX10_numbered_22 : decode cX10_numbered 22 = .ok (.iconst 5, 1) := by decide +kernel
theorem dX10_numbered_23 : decode cX10_numbered 23 = .ok (.if_icmp .ne 8, 3) := by decide +kernel
theorem dX10_numbered_26 : decode cX10_numbered 26 = .ok (.bipush 6, 2) := by decide +kernel
theorem dX10_numbered_28 : decode cX10_numbered 28 = .ok (.goto 4, 3) := by decide +kernel
theorem dX10_numbered_31 : decode cX10_numbered 31 = .ok (.iconst 0, 1) := by decide +kernel
theorem dX10_numbered_32 : decode cX10_numbered 32 = .ok (.putfield 80, 3) := by decide +kernel
theorem dX10_numbered_35 : decode cX10_numbered 35 = .ok (.iload_n 1, 1) := by decide +kernel
theorem dX10_numbered_36 : decode cX10_numbered 36 = .ok (.iconst 2, 1) := by decide +kernel
theorem dX10_numbered_37 : decode cX10_numbered 37 = .ok (.invokestatic 104, 3) := by decide +kernel
theorem dX10_numbered_40 : decode cX10_numbered 40 = .ok (.ireturn, 1) := by decide +kernel
theorem dX10_numbered_41 : decode cX10_numbered 41 = .ok (.aload_n 0, 1) := by decide +kernel
theorem dX10_numbered_42 : decode cX10_numbered 42 = .ok (.getfield 80, 3) := by decide +kernel
theorem dX10_numbered_45 : decode cX10_numbered 45 = .ok (.bipush 6, 2) := by decide +kernel
theorem dX10_numbered_47 : decode cX10_numbered 47 = .ok (.if_icmp .ne 21, 3) := by decide +kernel
theorem dX10_numbered_50 : decode cX10_numbered 50 = .ok (.aload_n 0, 1) := by decide +kernel
theorem dX10_numbered_51 : decode cX10_numbered 51 = .ok (.bipush 7, 2) := by decide +kernel
theorem dX10_numbered_53 : decode cX10_numbered 53 = .ok (.putfield 80, 3) := by decide +kernel
theorem dX10_numbered_56 : decode cX10_numbered 56 = .ok (.iload_n 1, 1) := by decide +kernel
theorem dX10_numbered_57 : decode cX10_numbered 57 = .ok (.bipush 58, 2) := by decide +kernel
theorem dX10_numbered_59 : decode cX10_numbered 59 = .ok (.if_icmp .ne 7, 3) := by decide +kernel
theorem dX10_numbered_62 : decode cX10_numbered 62 = .ok (.iconst 1, 1) := by decide +kernel
theorem dX10_numbered_63 : decode cX10_numbered 63 = .ok (.goto 4, 3) := by decide +kernel
theorem dX10_numbered_66 : decode cX10_numbered 66 = .ok (.iconst 0, 1) := by decide +kernel
theorem dX10_numbered_67 : decode cX10_numbered 67 = .ok (.ireturn, 1) := by decide +kernel
theorem dX10_numbered_68 : decode cX10_numbered 68 = .ok (.aload_n 0, 1) := by decide +kernel
theorem dX10_numbered_69 : decode cX10_numbered 69 = .ok (.getfield 80, 3) := by decide +kernel
theorem dX10_numbered_72 : decode cX10_numbered 72 = .ok (.bipush 8, 2) := by decide +kernel
theorem dX10_numbered_74 : decode cX10_numbered 74 = .ok (.if_icmp .ne 14, 3) := by decide +kernel
theorem dX10_numbered_77 : decode cX10_numbered 77 = .ok (.aload_n 0, 1) := by decide +kernel
theorem dX10_numbered_78 : decode cX10_numbered 78 = .ok (.iconst 0, 1) := by decide +kernel
theorem dX10_numbered_79 : decode cX10_numbered 79 = .ok (.putfield 80, 3) := by decide +kernel
theorem dX10_numbered_82 : decode cX10_numbered 82 = .ok (.iload_n 1, 1) := by decide +kernel
theorem dX10_numbered_83 : decode cX10_numbered 83 = .ok (.iconst 2, 1) := by decide +kernel
theorem dX10_numbered_84 : decode cX10_numbered 84 = .ok (.invokestatic 104, 3) := by decide +kernel
theorem dX10_numbered_87 : decode cX10_numbered 87 = .ok (.ireturn, 1) := by decide +kernel
theorem dX10_numbered_88 : decode cX10_numbered 88 = .ok (.aload_n 0, 1) := by decide +kernel
theorem dX10_numbered_89 : decode cX10_numbered 89 = .ok (.getfield 80, 3) := by decide +kernel
theorem dX10_numbered_92 : decode cX10_numbered 92 = .ok (.bipush 10, 2) := by decide +kernel
theorem dX10_numbered_94 : decode cX10_numbered 94 = .ok (.if_icmp .ne 16, 3) := by decide +kernel
theorem dX10_numbered_97 : decode cX10_numbered 97 = .ok (.iload_n 1, 1) := by decide +kernel
theorem dX10_numbered_98 : decode cX10_numbered 98 = .ok (.bipush 58, 2) := by decide +kernel
theorem dX10_numbered_100 : decode cX10_numbered 100 = .ok (.if_icmp .ne 10, 3) := by decide +kernel
theorem dX10_numbered_103 : decode cX10_numbered 103 = .ok (.aload_n 0, 1) := by decide +kernel
theorem dX10_numbered_104 : decode cX10_numbered 104 = .ok (.iconst 0, 1) := by decide +kernel
theorem dX10_numbered_105 : decode cX10_numbered 105 = .ok (.putfield 80, 3) := by decide +kernel
theorem dX10_numbered_108 : decode cX10_numbered 108 = .ok (.iconst 1, 1) := by decide +kernel
theorem dX10_numbered_109 : decode cX10_numbered 109 = .ok (.ireturn, 1) := by decide +kernel
theorem dX10_numbered_110 : decode cX10_numbered 110 = .ok (.aload_n 0, 1) := by decide +kernel
theorem dX10_numbered_111 : decode cX10_numbered 111 = .ok (.bipush 10, 2) := by decide +kernel
theorem dX10_numbered_113 : decode cX10_numbered 113 = .ok (.putfield 80, 3) := by decide +kernel
theorem dX10_numbered_116 : decode cX10_numbered 116 = .ok (.iload_n 1, 1) := by decide +kernel
theorem dX10_numbered_117 : decode cX10_numbered 117 = .ok (.iconst 1, 1) := by decide +kernel
theorem dX10_numbered_118 : decode cX10_numbered 118 = .ok (.invokestatic 104, 3) := by decide +kernel
theorem dX10_numbered_121 : decode cX10_numbered 121 = .ok (.ireturn, 1) := by decide +kernel
theorem dX10_may_0 : decode cX10_may 0 = .ok (.aload_n 0, 1) := by decide +kernel
theorem dX10_may_1 : decode cX10_may 1 = .ok (.getfield 80, 3) := by decide +kernel
theorem dX10_may_4 : decode cX10_may 4 = .ok (.tableswitch 126 0 4 #[36, 42, 78, 114, 120], 36) := by decide +kernel
theorem dX10_may_40 : decode cX10_may 40 = .ok (.aload_n 0, 1) := by decide +kernel
theorem dX10_may_41 : decode cX10_may 41 = .ok (.iload_n 1, 1) := by decide +kernel
theorem dX10_may_42 : decode cX10_may 42 = .ok (.invokevirtual 101, 3) := by decide +kernel
theorem dX10_may_45 : decode cX10_may 45 = .ok (.ireturn, 1) := by decide +kernel
theorem dX10_may_46 : decode cX10_may 46 = .ok (.aload_n 0, 1) := by decide +kernel
theorem dX10_may_47 : decode cX10_may 47 = .ok (.getfield 19, 3) := by decide +kernel
theorem dX10_may_50 : decode cX10_may 50 = .ok (.aload_n 0, 1) := by decide +kernel
theorem dX10_may_51 : decode cX10_may 51 = .ok (.getfield 90, 3) := by decide +kernel
theorem dX10_may_54 : decode cX10_may 54 = .ok (.dup2, 1) := by decide +kernel
theorem dX10_may_55 : decode cX10_may 55 = .ok (.iaload, 1) := by decide +kernel
theorem dX10_may_56 : decode cX10_may 56 = .ok (.iconst 1, 1) := by decide +kernel
theorem dX10_may_57 : decode cX10_may 57 = .ok (.iadd, 1) := by decide +kernel
theorem dX10_may_58 : decode cX10_may 58 = .ok (.iastore, 1) := by decide +kernel
theorem dX10_may_59 : decode cX10_may 59 = .ok (.aload_n 0, 1) := by decide +kernel
theorem dX10_may_60 : decode cX10_may 60 = .ok (.iconst 3, 1) := by decide +kernel
theorem dX10_may_61 : decode cX10_may 61 = .ok (.putfield 80, 3) := by decide +kernel
theorem dX10_may_64 : decode cX10_may 64 = .ok (.aload_n 0, 1) := by decide +kernel
theorem dX10_may_65 : decode cX10_may 65 = .ok (.iconst 0, 1) := by decide +kernel
theorem dX10_may_66 : decode cX10_may 66 = .ok (.putfield 87, 3) := by decide +kernel
theorem dX10_may_69 : decode cX10_may 69 = .ok (.iload_n 1, 1) := by decide +kernel
theorem dX10_may_70 : decode cX10_may 70 = .ok (.invokestatic 83, 3) := by decide +kernel
theorem dX10_may_73 : decode cX10_may 73 = .ok (.ifCond .lt 7, 3) := by decide +kernel
theorem dX10_may_76 : decode cX10_may 76 = .ok (.iconst 1, 1) := by decide +kernel
theorem dX10_may_77 : decode cX10_may 77 = .ok (.goto 4, 3) := by decide +kernel
theorem dX10_may_80 : decode cX10_may 80 = .ok (.iconst 0, 1) := by decide +kernel
theorem dX10_may_81 : decode cX10_may 81 = .ok (.ireturn, 1) := by decide +kernel
theorem dX10_may_82 : decode cX10_may 82 = .ok (.aload_n 0, 1) := by decide +kernel
theorem dX10_may_83 : decode cX10_may 83 = .ok (.getfield 19, 3) := by decide +kernel
theorem dX10_may_86 : decode cX10_may 86 = .ok (.aload_n 0, 1) := by decide +kernel
theorem dX10_may_87 : decode cX10_may 87 = .ok (.getfield 90, 3) := by decide +kernel
theorem dX10_may_90 : decode cX10_may 90 = .ok (.dup2, 1) := by decide +kernel
theorem dX10_may_91 : decode cX10_may 91 = .ok (.iaload, 1) := by decide +kernel
theorem dX10_may_92 : decode cX10_may 92 = .ok (.iconst 1, 1) := by decide +kernel
theorem dX10_may_93 : decode cX10_may 93 = .ok (.iadd, 1) := by decide +kernel
theorem dX10_may_94 : decode cX10_may 94 = .ok (.iastore, 1) := by decide +kernel
theorem dX10_may_95 : decode cX10_may 95 = .ok (.aload_n 0, 1) := by decide +kernel
theorem dX10_may_96 : decode cX10_may 96 = .ok (.iconst 4, 1) := by decide +kernel
theorem dX10_may_97 : decode cX10_may 97 = .ok (.putfield 80, 3) := by decide +kernel
theorem dX10_may_100 : decode cX10_may 100 = .ok (.aload_n 0, 1) := by decide +kernel
theorem dX10_may_101 : decode cX10_may 101 = .ok (.iconst 0, 1) := by decide +kernel
theorem dX10_may_102 : decode cX10_may 102 = .ok (.putfield 87, 3) := by decide +kernel
theorem dX10_may_105 : decode cX10_may 105 = .ok (.iload_n 1, 1) := by decide +kernel
theorem dX10_may_106 : decode cX10_may 106 = .ok (.invokestatic 83, 3) := by decide +kernel
theorem dX10_may_109 : decode cX10_may 109 = .ok (.ifCond .lt 7, 3) := by decide +kernel
theorem dX10_may_112 : decode cX10_may 112 = .ok (.iconst 1, 1) := by decide +kernel
theorem dX10_may_113 : decode cX10_may 113 = .ok (.goto 4, 3) := by decide +kernel
theorem dX10_may_116 : decode cX10_may 116 = .ok (.iconst 0, 1) := by decide +kernel
theorem dX10_may_117 : decode cX10_may 117 = .ok (.ireturn, 1) := by decide +kernel
theorem dX10_may_118 : decode cX10_may 118 = .ok (.aload_n 0, 1) := by decide +kernel
theorem dX10_may_119 : decode cX10_may 119 = .ok (.iload_n 1, 1) := by decide +kernel
theorem dX10_may_120 : decode cX10_may 120 = .ok (.invokevirtual 108, 3) := by decide +kernel
theorem dX10_may_123 : decode cX10_may 123 = .ok (.ireturn, 1) := by decide +kernel
theorem dX10_may_124 : decode cX10_may 124 = .ok (.aload_n 0, 1) := by decide +kernel
theorem dX10_may_125 : decode cX10_may 125 = .ok (.iload_n 1, 1) := by decide +kernel
theorem dX10_may_126 : decode cX10_may 126 = .ok (.invokevirtual 108, 3) := by decide +kernel
theorem dX10_may_129 : decode cX10_may 129 = .ok (.ireturn, 1) := by decide +kernel
theorem dX10_may_130 : decode cX10_may 130 = .ok (.aload_n 0, 1) := by decide +kernel
theorem dX10_may_131 : decode cX10_may 131 = .ok (.iload_n 1, 1) := by decide +kernel
theorem dX10_may_132 : decode cX10_may 132 = .ok (.invokevirtual 111, 3) := by decide +kernel
theorem dX10_may_135 : decode cX10_may 135 = .ok (.ireturn, 1) := by decide +kernel
theorem dX10_wrongAt_0 : decode cX10_wrongAt 0 = .ok (.aload_n 0, 1) := by decide +kernel
theorem dX10_wrongAt_1 : decode cX10_wrongAt 1 = .ok (.iconst 0, 1) := by decide +kernel
theorem dX10_wrongAt_2 : decode cX10_wrongAt 2 = .ok (.putfield 80, 3) := by decide +kernel
theorem dX10_wrongAt_5 : decode cX10_wrongAt 5 = .ok (.aload_n 0, 1) := by decide +kernel
theorem dX10_wrongAt_6 : decode cX10_wrongAt 6 = .ok (.iconst 0, 1) := by decide +kernel
theorem dX10_wrongAt_7 : decode cX10_wrongAt 7 = .ok (.putfield 90, 3) := by decide +kernel
theorem dX10_wrongAt_10 : decode cX10_wrongAt 10 = .ok (.aload_n 0, 1) := by decide +kernel
theorem dX10_wrongAt_11 : decode cX10_wrongAt 11 = .ok (.iconst 0, 1) := by decide +kernel
theorem dX10_wrongAt_12 : decode cX10_wrongAt 12 = .ok (.putfield 97, 3) := by decide +kernel
theorem dX10_wrongAt_15 : decode cX10_wrongAt 15 = .ok (.iconst 0, 1) := by decide +kernel
theorem dX10_wrongAt_16 : decode cX10_wrongAt 16 = .ok (.istore_n 1, 1) := by decide +kernel
theorem dX10_wrongAt_17 : decode cX10_wrongAt 17 = .ok (.iload_n 1, 1) := by decide +kernel
theorem dX10_wrongAt_18 : decode cX10_wrongAt 18 = .ok (.aload_n 0, 1) := by decide +kernel
theorem dX10_wrongAt_19 : decode cX10_wrongAt 19 = .ok (.getfield 114, 3) := by decide +kernel
theorem dX10_wrongAt_22 : decode cX10_wrongAt 22 = .ok (.if_icmp .ge 24, 3) := by decide +kernel
theorem dX10_wrongAt_25 : decode cX10_wrongAt 25 = .ok (.aload_n 0, 1) := by decide +kernel
theorem dX10_wrongAt_26 : decode cX10_wrongAt 26 = .ok (.aload_n 0, 1) := by decide +kernel
theorem dX10_wrongAt_27 : decode cX10_wrongAt 27 = .ok (.getfield 16, 3) := by decide +kernel
theorem dX10_wrongAt_30 : decode cX10_wrongAt 30 = .ok (.iload_n 1, 1) := by decide +kernel
theorem dX10_wrongAt_31 : decode cX10_wrongAt 31 = .ok (.iaload, 1) := by decide +kernel
theorem dX10_wrongAt_32 : decode cX10_wrongAt 32 = .ok (.invokevirtual 117, 3) := by decide +kernel
theorem dX10_wrongAt_35 : decode cX10_wrongAt 35 = .ok (.ifCond .ne 5, 3) := by decide +kernel
theorem dX10_wrongAt_38 : decode cX10_wrongAt 38 = .ok (.iload_n 1, 1) := by decide +kernel
theorem dX10_wrongAt_39 : decode cX10_wrongAt 39 = .ok (.ireturn, 1) := by decide +kernel
theorem dX10_wrongAt_40 : decode cX10_wrongAt 40 = .ok (.iinc 1 1, 3) := by decide +kernel
theorem dX10_wrongAt_43 : decode cX10_wrongAt 43 = .ok (.goto (-26), 3) := by decide +kernel
theorem dX10_wrongAt_46 : decode cX10_wrongAt 46 = .ok (.aload_n 0, 1) := by decide +kernel
theorem dX10_wrongAt_47 : decode cX10_wrongAt 47 = .ok (.getfield 80, 3) := by decide +kernel
theorem dX10_wrongAt_50 : decode cX10_wrongAt 50 = .ok (.ifCond .eq 19, 3) := by decide +kernel
theorem dX10_wrongAt_53 : decode cX10_wrongAt 53 = .ok (.aload_n 0, 1) := by decide +kernel
theorem dX10_wrongAt_54 : decode cX10_wrongAt 54 = .ok (.getfield 80, 3) := by decide +kernel
theorem dX10_wrongAt_57 : decode cX10_wrongAt 57 = .ok (.iconst 3, 1) := by decide +kernel
theorem dX10_wrongAt_58 : decode cX10_wrongAt 58 = .ok (.if_icmp .eq 11, 3) := by decide +kernel
theorem dX10_wrongAt_61 : decode cX10_wrongAt 61 = .ok (.aload_n 0, 1) := by decide +kernel
theorem dX10_wrongAt_62 : decode cX10_wrongAt 62 = .ok (.getfield 80, 3) := by decide +kernel
theorem dX10_wrongAt_65 : decode cX10_wrongAt 65 = .ok (.iconst 4, 1) := by decide +kernel
theorem dX10_wrongAt_66 : decode cX10_wrongAt 66 = .ok (.if_icmp .ne 21, 3) := by decide +kernel
theorem dX10_wrongAt_69 : decode cX10_wrongAt 69 = .ok (.aload_n 0, 1) := by decide +kernel
theorem dX10_wrongAt_70 : decode cX10_wrongAt 70 = .ok (.getfield 90, 3) := by decide +kernel
theorem dX10_wrongAt_73 : decode cX10_wrongAt 73 = .ok (.ifCond .ne 14, 3) := by decide +kernel
theorem dX10_wrongAt_76 : decode cX10_wrongAt 76 = .ok (.aload_n 0, 1) := by decide +kernel
theorem dX10_wrongAt_77 : decode cX10_wrongAt 77 = .ok (.getfield 97, 3) := by decide +kernel
theorem dX10_wrongAt_80 : decode cX10_wrongAt 80 = .ok (.ifCond .ne 7, 3) := by decide +kernel
theorem dX10_wrongAt_83 : decode cX10_wrongAt 83 = .ok (.iconst 1, 1) := by decide +kernel
theorem dX10_wrongAt_84 : decode cX10_wrongAt 84 = .ok (.goto 4, 3) := by decide +kernel
theorem dX10_wrongAt_87 : decode cX10_wrongAt 87 = .ok (.iconst 0, 1) := by decide +kernel
theorem dX10_wrongAt_88 : decode cX10_wrongAt 88 = .ok (.istore_n 1, 1) := by decide +kernel
theorem dX10_wrongAt_89 : decode cX10_wrongAt 89 = .ok (.iload_n 1, 1) := by decide +kernel
theorem dX10_wrongAt_90 : decode cX10_wrongAt 90 = .ok (.ifCond .eq 7, 3) := by decide +kernel
theorem dX10_wrongAt_93 : decode cX10_wrongAt 93 = .ok (.iconst (-1), 1) := by decide +kernel
theorem dX10_wrongAt_94 : decode cX10_wrongAt 94 = .ok (.goto 7, 3) := by decide +kernel
theorem dX10_wrongAt_97 : decode cX10_wrongAt 97 = .ok (.aload_n 0, 1) := by decide +kernel
theorem dX10_wrongAt_98 : decode cX10_wrongAt 98 = .ok (.getfield 114, 3) := by decide +kernel
theorem dX10_wrongAt_101 : decode cX10_wrongAt 101 = .ok (.ireturn, 1) := by decide +kernel
theorem dX10_at_0 : decode cX10_at 0 = .ok (.iload_n 2, 1) := by decide +kernel
theorem dX10_at_1 : decode cX10_at 1 = .ok (.aload_n 0, 1) := by decide +kernel
theorem dX10_at_2 : decode cX10_at 2 = .ok (.getfield 7, 3) := by decide +kernel
theorem dX10_at_5 : decode cX10_at 5 = .ok (.bipush 101, 2) := by decide +kernel
theorem dX10_at_7 : decode cX10_at 7 = .ok (.iload_n 1, 1) := by decide +kernel
theorem dX10_at_8 : decode cX10_at 8 = .ok (.imul, 1) := by decide +kernel
theorem dX10_at_9 : decode cX10_at 9 = .ok (.iaload, 1) := by decide +kernel
theorem dX10_at_10 : decode cX10_at 10 = .ok (.if_icmp .ge 19, 3) := by decide +kernel
theorem dX10_at_13 : decode cX10_at 13 = .ok (.aload_n 0, 1) := by decide +kernel
theorem dX10_at_14 : decode cX10_at 14 = .ok (.getfield 7, 3) := by decide +kernel
theorem dX10_at_17 : decode cX10_at 17 = .ok (.bipush 101, 2) := by decide +kernel
theorem dX10_at_19 : decode cX10_at 19 = .ok (.iload_n 1, 1) := by decide +kernel
theorem dX10_at_20 : decode cX10_at 20 = .ok (.imul, 1) := by decide +kernel
theorem dX10_at_21 : decode cX10_at 21 = .ok (.iconst 1, 1) := by decide +kernel
theorem dX10_at_22 : decode cX10_at 22 = .ok (.iadd, 1) := by decide +kernel
theorem dX10_at_23 : decode cX10_at 23 = .ok (.iload_n 2, 1) := by decide +kernel
theorem dX10_at_24 : decode cX10_at 24 = .ok (.iadd, 1) := by decide +kernel
theorem dX10_at_25 : decode cX10_at 25 = .ok (.iaload, 1) := by decide +kernel
theorem dX10_at_26 : decode cX10_at 26 = .ok (.goto 4, 3) := by decide +kernel
theorem dX10_at_29 : decode cX10_at 29 = .ok (.iconst (-1), 1) := by decide +kernel
theorem dX10_at_30 : decode cX10_at 30 = .ok (.ireturn, 1) := by decide +kernel
theorem dX10_lays_0 : decode cX10_lays 0 = .ok (.iload_n 2, 1) := by decide +kernel
theorem dX10_lays_1 : decode cX10_lays 1 = .ok (.istore 4, 2) := by decide +kernel
theorem dX10_lays_3 : decode cX10_lays 3 = .ok (.aload_n 0, 1) := by decide +kernel
theorem dX10_lays_4 : decode cX10_lays 4 = .ok (.iload_n 1, 1) := by decide +kernel
theorem dX10_lays_5 : decode cX10_lays 5 = .ok (.iload 4, 2) := by decide +kernel
theorem dX10_lays_7 : decode cX10_lays 7 = .ok (.invokevirtual 120, 3) := by decide +kernel
theorem dX10_lays_10 : decode cX10_lays 10 = .ok (.bipush 47, 2) := by decide +kernel
theorem dX10_lays_12 : decode cX10_lays 12 = .ok (.if_icmp .eq 51, 3) := by decide +kernel
theorem dX10_lays_15 : decode cX10_lays 15 = .ok (.aload_n 0, 1) := by decide +kernel
theorem dX10_lays_16 : decode cX10_lays 16 = .ok (.iload_n 1, 1) := by decide +kernel
theorem dX10_lays_17 : decode cX10_lays 17 = .ok (.iload 4, 2) := by decide +kernel
theorem dX10_lays_19 : decode cX10_lays 19 = .ok (.invokevirtual 120, 3) := by decide +kernel
theorem dX10_lays_22 : decode cX10_lays 22 = .ok (.bipush 93, 2) := by decide +kernel
theorem dX10_lays_24 : decode cX10_lays 24 = .ok (.if_icmp .eq 39, 3) := by decide +kernel
theorem dX10_lays_27 : decode cX10_lays 27 = .ok (.iload_n 3, 1) := by decide +kernel
theorem dX10_lays_28 : decode cX10_lays 28 = .ok (.ifCond .eq 29, 3) := by decide +kernel
theorem dX10_lays_31 : decode cX10_lays 31 = .ok (.aload_n 0, 1) := by decide +kernel
theorem dX10_lays_32 : decode cX10_lays 32 = .ok (.getfield 22, 3) := by decide +kernel
theorem dX10_lays_35 : decode cX10_lays 35 = .ok (.aload_n 0, 1) := by decide +kernel
theorem dX10_lays_36 : decode cX10_lays 36 = .ok (.getfield 124, 3) := by decide +kernel
theorem dX10_lays_39 : decode cX10_lays 39 = .ok (.aload_n 0, 1) := by decide +kernel
theorem dX10_lays_40 : decode cX10_lays 40 = .ok (.iload_n 1, 1) := by decide +kernel
theorem dX10_lays_41 : decode cX10_lays 41 = .ok (.iload 4, 2) := by decide +kernel
theorem dX10_lays_43 : decode cX10_lays 43 = .ok (.invokevirtual 120, 3) := by decide +kernel
theorem dX10_lays_46 : decode cX10_lays 46 = .ok (.iastore, 1) := by decide +kernel
theorem dX10_lays_47 : decode cX10_lays 47 = .ok (.aload_n 0, 1) := by decide +kernel
theorem dX10_lays_48 : decode cX10_lays 48 = .ok (.dup, 1) := by decide +kernel
theorem dX10_lays_49 : decode cX10_lays 49 = .ok (.getfield 124, 3) := by decide +kernel
theorem dX10_lays_52 : decode cX10_lays 52 = .ok (.iconst 1, 1) := by decide +kernel
theorem dX10_lays_53 : decode cX10_lays 53 = .ok (.iadd, 1) := by decide +kernel
theorem dX10_lays_54 : decode cX10_lays 54 = .ok (.putfield 124, 3) := by decide +kernel
theorem dX10_lays_57 : decode cX10_lays 57 = .ok (.iinc 4 1, 3) := by decide +kernel
theorem dX10_lays_60 : decode cX10_lays 60 = .ok (.goto (-57), 3) := by decide +kernel
theorem dX10_lays_63 : decode cX10_lays 63 = .ok (.iload 4, 2) := by decide +kernel
theorem dX10_lays_65 : decode cX10_lays 65 = .ok (.ireturn, 1) := by decide +kernel
theorem dX10_closing_0 : decode cX10_closing 0 = .ok (.iload_n 2, 1) := by decide +kernel
theorem dX10_closing_1 : decode cX10_closing 1 = .ok (.istore_n 3, 1) := by decide +kernel
theorem dX10_closing_2 : decode cX10_closing 2 = .ok (.aload_n 0, 1) := by decide +kernel
theorem dX10_closing_3 : decode cX10_closing 3 = .ok (.iload_n 1, 1) := by decide +kernel
theorem dX10_closing_4 : decode cX10_closing 4 = .ok (.iload_n 3, 1) := by decide +kernel
theorem dX10_closing_5 : decode cX10_closing 5 = .ok (.invokevirtual 120, 3) := by decide +kernel
theorem dX10_closing_8 : decode cX10_closing 8 = .ok (.bipush 93, 2) := by decide +kernel
theorem dX10_closing_10 : decode cX10_closing 10 = .ok (.if_icmp .eq 9, 3) := by decide +kernel
theorem dX10_closing_13 : decode cX10_closing 13 = .ok (.iinc 3 1, 3) := by decide +kernel
theorem dX10_closing_16 : decode cX10_closing 16 = .ok (.goto (-14), 3) := by decide +kernel
theorem dX10_closing_19 : decode cX10_closing 19 = .ok (.iload_n 3, 1) := by decide +kernel
theorem dX10_closing_20 : decode cX10_closing 20 = .ok (.ireturn, 1) := by decide +kernel
theorem dX10_passes_0 : decode cX10_passes 0 = .ok (.aload_n 0, 1) := by decide +kernel
theorem dX10_passes_1 : decode cX10_passes 1 = .ok (.iload_n 1, 1) := by decide +kernel
theorem dX10_passes_2 : decode cX10_passes 2 = .ok (.iload_n 2, 1) := by decide +kernel
theorem dX10_passes_3 : decode cX10_passes 3 = .ok (.iconst 1, 1) := by decide +kernel
theorem dX10_passes_4 : decode cX10_passes 4 = .ok (.invokevirtual 127, 3) := by decide +kernel
theorem dX10_passes_7 : decode cX10_passes 7 = .ok (.istore 4, 2) := by decide +kernel
theorem dX10_passes_9 : decode cX10_passes 9 = .ok (.iconst 0, 1) := by decide +kernel
theorem dX10_passes_10 : decode cX10_passes 10 = .ok (.istore 5, 2) := by decide +kernel
theorem dX10_passes_12 : decode cX10_passes 12 = .ok (.aload_n 0, 1) := by decide +kernel
theorem dX10_passes_13 : decode cX10_passes 13 = .ok (.iload_n 1, 1) := by decide +kernel
theorem dX10_passes_14 : decode cX10_passes 14 = .ok (.iload 4, 2) := by decide +kernel
theorem dX10_passes_16 : decode cX10_passes 16 = .ok (.invokevirtual 120, 3) := by decide +kernel
theorem dX10_passes_19 : decode cX10_passes 19 = .ok (.bipush 47, 2) := by decide +kernel
theorem dX10_passes_21 : decode cX10_passes 21 = .ok (.if_icmp .ne 99, 3) := by decide +kernel
theorem dX10_passes_24 : decode cX10_passes 24 = .ok (.iconst 0, 1) := by decide +kernel
theorem dX10_passes_25 : decode cX10_passes 25 = .ok (.istore 6, 2) := by decide +kernel
theorem dX10_passes_27 : decode cX10_passes 27 = .ok (.iinc 4 1, 3) := by decide +kernel
theorem dX10_passes_30 : decode cX10_passes 30 = .ok (.aload_n 0, 1) := by decide +kernel
theorem dX10_passes_31 : decode cX10_passes 31 = .ok (.iload_n 1, 1) := by decide +kernel
theorem dX10_passes_32 : decode cX10_passes 32 = .ok (.iload 4, 2) := by decide +kernel
theorem dX10_passes_34 : decode cX10_passes 34 = .ok (.invokevirtual 120, 3) := by decide +kernel
theorem dX10_passes_37 : decode cX10_passes 37 = .ok (.bipush 58, 2) := by decide +kernel
theorem dX10_passes_39 : decode cX10_passes 39 = .ok (.if_icmp .eq 35, 3) := by decide +kernel
theorem dX10_passes_42 : decode cX10_passes 42 = .ok (.iload 6, 2) := by decide +kernel
theorem dX10_passes_44 : decode cX10_passes 44 = .ok (.ifCond .ne 17, 3) := by decide +kernel
theorem dX10_passes_47 : decode cX10_passes 47 = .ok (.aload_n 0, 1) := by decide +kernel
theorem dX10_passes_48 : decode cX10_passes 48 = .ok (.iload_n 1, 1) := by decide +kernel
theorem dX10_passes_49 : decode cX10_passes 49 = .ok (.iload 4, 2) := by decide +kernel
theorem dX10_passes_51 : decode cX10_passes 51 = .ok (.invokevirtual 120, 3) := by decide +kernel
theorem dX10_passes_54 : decode cX10_passes 54 = .ok (.bipush 48, 2) := by decide +kernel
theorem dX10_passes_56 : decode cX10_passes 56 = .ok (.iload_n 3, 1) := by decide +kernel
theorem dX10_passes_57 : decode cX10_passes 57 = .ok (.iadd, 1) := by decide +kernel
theorem dX10_passes_58 : decode cX10_passes 58 = .ok (.if_icmp .ne 7, 3) := by decide +kernel
theorem dX10_passes_61 : decode cX10_passes 61 = .ok (.iconst 1, 1) := by decide +kernel
theorem dX10_passes_62 : decode cX10_passes 62 = .ok (.goto 4, 3) := by decide +kernel
theorem dX10_passes_65 : decode cX10_passes 65 = .ok (.iconst 0, 1) := by decide +kernel
theorem dX10_passes_66 : decode cX10_passes 66 = .ok (.istore 6, 2) := by decide +kernel
theorem dX10_passes_68 : decode cX10_passes 68 = .ok (.iinc 4 1, 3) := by decide +kernel
theorem dX10_passes_71 : decode cX10_passes 71 = .ok (.goto (-41), 3) := by decide +kernel
theorem dX10_passes_74 : decode cX10_passes 74 = .ok (.aload_n 0, 1) := by decide +kernel
theorem dX10_passes_75 : decode cX10_passes 75 = .ok (.iload_n 1, 1) := by decide +kernel
theorem dX10_passes_76 : decode cX10_passes 76 = .ok (.iload 4, 2) := by decide +kernel
theorem dX10_passes_78 : decode cX10_passes 78 = .ok (.iconst 1, 1) := by decide +kernel
theorem dX10_passes_79 : decode cX10_passes 79 = .ok (.iadd, 1) := by decide +kernel
theorem dX10_passes_80 : decode cX10_passes 80 = .ok (.iload 6, 2) := by decide +kernel
theorem dX10_passes_82 : decode cX10_passes 82 = .ok (.ifCond .eq 12, 3) := by decide +kernel
theorem dX10_passes_85 : decode cX10_passes 85 = .ok (.iload 5, 2) := by decide +kernel
theorem dX10_passes_87 : decode cX10_passes 87 = .ok (.ifCond .ne 7, 3) := by decide +kernel
theorem dX10_passes_90 : decode cX10_passes 90 = .ok (.iconst 1, 1) := by decide +kernel
theorem dX10_passes_91 : decode cX10_passes 91 = .ok (.goto 4, 3) := by decide +kernel
theorem dX10_passes_94 : decode cX10_passes 94 = .ok (.iconst 0, 1) := by decide +kernel
theorem dX10_passes_95 : decode cX10_passes 95 = .ok (.invokevirtual 127, 3) := by decide +kernel
theorem dX10_passes_98 : decode cX10_passes 98 = .ok (.istore 4, 2) := by decide +kernel
theorem dX10_passes_100 : decode cX10_passes 100 = .ok (.iload 5, 2) := by decide +kernel
theorem dX10_passes_102 : decode cX10_passes 102 = .ok (.ifCond .ne 8, 3) := by decide +kernel
theorem dX10_passes_105 : decode cX10_passes 105 = .ok (.iload 6, 2) := by decide +kernel
theorem dX10_passes_107 : decode cX10_passes 107 = .ok (.ifCond .eq 7, 3) := by decide +kernel
theorem dX10_passes_110 : decode cX10_passes 110 = .ok (.iconst 1, 1) := by decide +kernel
theorem dX10_passes_111 : decode cX10_passes 111 = .ok (.goto 4, 3) := by decide +kernel
theorem dX10_passes_114 : decode cX10_passes 114 = .ok (.iconst 0, 1) := by decide +kernel
theorem dX10_passes_115 : decode cX10_passes 115 = .ok (.istore 5, 2) := by decide +kernel
theorem dX10_passes_117 : decode cX10_passes 117 = .ok (.goto (-105), 3) := by decide +kernel
theorem dX10_passes_120 : decode cX10_passes 120 = .ok (.return_, 1) := by decide +kernel
theorem dX10_unfolds_0 : decode cX10_unfolds 0 = .ok (.aload_n 0, 1) := by decide +kernel
theorem dX10_unfolds_1 : decode cX10_unfolds 1 = .ok (.iconst 0, 1) := by decide +kernel
theorem dX10_unfolds_2 : decode cX10_unfolds 2 = .ok (.putfield 124, 3) := by decide +kernel
theorem dX10_unfolds_5 : decode cX10_unfolds 5 = .ok (.iconst 0, 1) := by decide +kernel
theorem dX10_unfolds_6 : decode cX10_unfolds 6 = .ok (.istore_n 2, 1) := by decide +kernel
theorem dX10_unfolds_7 : decode cX10_unfolds 7 = .ok (.iload_n 2, 1) := by decide +kernel
theorem dX10_unfolds_8 : decode cX10_unfolds 8 = .ok (.aload_n 0, 1) := by decide +kernel
theorem dX10_unfolds_9 : decode cX10_unfolds 9 = .ok (.getfield 7, 3) := by decide +kernel
theorem dX10_unfolds_12 : decode cX10_unfolds 12 = .ok (.bipush 101, 2) := by decide +kernel
theorem dX10_unfolds_14 : decode cX10_unfolds 14 = .ok (.iload_n 1, 1) := by decide +kernel
theorem dX10_unfolds_15 : decode cX10_unfolds 15 = .ok (.imul, 1) := by decide +kernel
theorem dX10_unfolds_16 : decode cX10_unfolds 16 = .ok (.iaload, 1) := by decide +kernel
theorem dX10_unfolds_17 : decode cX10_unfolds 17 = .ok (.if_icmp .ge 94, 3) := by decide +kernel
theorem dX10_unfolds_20 : decode cX10_unfolds 20 = .ok (.aload_n 0, 1) := by decide +kernel
theorem dX10_unfolds_21 : decode cX10_unfolds 21 = .ok (.iload_n 1, 1) := by decide +kernel
theorem dX10_unfolds_22 : decode cX10_unfolds 22 = .ok (.iload_n 2, 1) := by decide +kernel
theorem dX10_unfolds_23 : decode cX10_unfolds 23 = .ok (.invokevirtual 120, 3) := by decide +kernel
theorem dX10_unfolds_26 : decode cX10_unfolds 26 = .ok (.bipush 91, 2) := by decide +kernel
theorem dX10_unfolds_28 : decode cX10_unfolds 28 = .ok (.if_icmp .ne 52, 3) := by decide +kernel
theorem dX10_unfolds_31 : decode cX10_unfolds 31 = .ok (.aload_n 0, 1) := by decide +kernel
theorem dX10_unfolds_32 : decode cX10_unfolds 32 = .ok (.iload_n 1, 1) := by decide +kernel
theorem dX10_unfolds_33 : decode cX10_unfolds 33 = .ok (.iload_n 2, 1) := by decide +kernel
theorem dX10_unfolds_34 : decode cX10_unfolds 34 = .ok (.invokevirtual 131, 3) := by decide +kernel
theorem dX10_unfolds_37 : decode cX10_unfolds 37 = .ok (.istore_n 3, 1) := by decide +kernel
theorem dX10_unfolds_38 : decode cX10_unfolds 38 = .ok (.iconst 1, 1) := by decide +kernel
theorem dX10_unfolds_39 : decode cX10_unfolds 39 = .ok (.istore 4, 2) := by decide +kernel
theorem dX10_unfolds_41 : decode cX10_unfolds 41 = .ok (.iload 4, 2) := by decide +kernel
theorem dX10_unfolds_43 : decode cX10_unfolds 43 = .ok (.aload_n 0, 1) := by decide +kernel
theorem dX10_unfolds_44 : decode cX10_unfolds 44 = .ok (.iload_n 1, 1) := by decide +kernel
theorem dX10_unfolds_45 : decode cX10_unfolds 45 = .ok (.iload_n 3, 1) := by decide +kernel
theorem dX10_unfolds_46 : decode cX10_unfolds 46 = .ok (.iconst 1, 1) := by decide +kernel
theorem dX10_unfolds_47 : decode cX10_unfolds 47 = .ok (.iadd, 1) := by decide +kernel
theorem dX10_unfolds_48 : decode cX10_unfolds 48 = .ok (.invokevirtual 120, 3) := by decide +kernel
theorem dX10_unfolds_51 : decode cX10_unfolds 51 = .ok (.bipush 48, 2) := by decide +kernel
theorem dX10_unfolds_53 : decode cX10_unfolds 53 = .ok (.isub, 1) := by decide +kernel
theorem dX10_unfolds_54 : decode cX10_unfolds 54 = .ok (.if_icmp .gt 19, 3) := by decide +kernel
theorem dX10_unfolds_57 : decode cX10_unfolds 57 = .ok (.aload_n 0, 1) := by decide +kernel
theorem dX10_unfolds_58 : decode cX10_unfolds 58 = .ok (.iload_n 1, 1) := by decide +kernel
theorem dX10_unfolds_59 : decode cX10_unfolds 59 = .ok (.iload_n 2, 1) := by decide +kernel
theorem dX10_unfolds_60 : decode cX10_unfolds 60 = .ok (.iconst 1, 1) := by decide +kernel
theorem dX10_unfolds_61 : decode cX10_unfolds 61 = .ok (.iadd, 1) := by decide +kernel
theorem dX10_unfolds_62 : decode cX10_unfolds 62 = .ok (.iload 4, 2) := by decide +kernel
theorem dX10_unfolds_64 : decode cX10_unfolds 64 = .ok (.invokevirtual 134, 3) := by decide +kernel
theorem dX10_unfolds_67 : decode cX10_unfolds 67 = .ok (.iinc 4 1, 3) := by decide +kernel
theorem dX10_unfolds_70 : decode cX10_unfolds 70 = .ok (.goto (-29), 3) := by decide +kernel
theorem dX10_unfolds_73 : decode cX10_unfolds 73 = .ok (.iload_n 3, 1) := by decide +kernel
theorem dX10_unfolds_74 : decode cX10_unfolds 74 = .ok (.iconst 2, 1) := by decide +kernel
theorem dX10_unfolds_75 : decode cX10_unfolds 75 = .ok (.iadd, 1) := by decide +kernel
theorem dX10_unfolds_76 : decode cX10_unfolds 76 = .ok (.istore_n 2, 1) := by decide +kernel
theorem dX10_unfolds_77 : decode cX10_unfolds 77 = .ok (.goto (-70), 3) := by decide +kernel
theorem dX10_unfolds_80 : decode cX10_unfolds 80 = .ok (.aload_n 0, 1) := by decide +kernel
theorem dX10_unfolds_81 : decode cX10_unfolds 81 = .ok (.getfield 22, 3) := by decide +kernel
theorem dX10_unfolds_84 : decode cX10_unfolds 84 = .ok (.aload_n 0, 1) := by decide +kernel
theorem dX10_unfolds_85 : decode cX10_unfolds 85 = .ok (.getfield 124, 3) := by decide +kernel
theorem dX10_unfolds_88 : decode cX10_unfolds 88 = .ok (.aload_n 0, 1) := by decide +kernel
theorem dX10_unfolds_89 : decode cX10_unfolds 89 = .ok (.iload_n 1, 1) := by decide +kernel
theorem dX10_unfolds_90 : decode cX10_unfolds 90 = .ok (.iload_n 2, 1) := by decide +kernel
theorem dX10_unfolds_91 : decode cX10_unfolds 91 = .ok (.invokevirtual 120, 3) := by decide +kernel
theorem dX10_unfolds_94 : decode cX10_unfolds 94 = .ok (.iastore, 1) := by decide +kernel
theorem dX10_unfolds_95 : decode cX10_unfolds 95 = .ok (.aload_n 0, 1) := by decide +kernel
theorem dX10_unfolds_96 : decode cX10_unfolds 96 = .ok (.dup, 1) := by decide +kernel
theorem dX10_unfolds_97 : decode cX10_unfolds 97 = .ok (.getfield 124, 3) := by decide +kernel
theorem dX10_unfolds_100 : decode cX10_unfolds 100 = .ok (.iconst 1, 1) := by decide +kernel
theorem dX10_unfolds_101 : decode cX10_unfolds 101 = .ok (.iadd, 1) := by decide +kernel
theorem dX10_unfolds_102 : decode cX10_unfolds 102 = .ok (.putfield 124, 3) := by decide +kernel
theorem dX10_unfolds_105 : decode cX10_unfolds 105 = .ok (.iinc 2 1, 3) := by decide +kernel
theorem dX10_unfolds_108 : decode cX10_unfolds 108 = .ok (.goto (-101), 3) := by decide +kernel
theorem dX10_unfolds_111 : decode cX10_unfolds 111 = .ok (.return_, 1) := by decide +kernel
theorem dX10_lengthAt_0 : decode cX10_lengthAt 0 = .ok (.ldc2_w 138, 3) := by decide +kernel
theorem dX10_lengthAt_3 : decode cX10_lengthAt 3 = .ok (.iload_n 1, 1) := by decide +kernel
theorem dX10_lengthAt_4 : decode cX10_lengthAt 4 = .ok (.invokestatic 83, 3) := by decide +kernel
theorem dX10_lengthAt_7 : decode cX10_lengthAt 7 = .ok (.lshr, 1) := by decide +kernel
theorem dX10_lengthAt_8 : decode cX10_lengthAt 8 = .ok (.lstore 4, 2) := by decide +kernel
theorem dX10_lengthAt_10 : decode cX10_lengthAt 10 = .ok (.iload_n 2, 1) := by decide +kernel
theorem dX10_lengthAt_11 : decode cX10_lengthAt 11 = .ok (.ifCond .ne 8, 3) := by decide +kernel
theorem dX10_lengthAt_14 : decode cX10_lengthAt 14 = .ok (.lload 4, 2) := by decide +kernel
theorem dX10_lengthAt_16 : decode cX10_lengthAt 16 = .ok (.goto 31, 3) := by decide +kernel
theorem dX10_lengthAt_19 : decode cX10_lengthAt 19 = .ok (.iload_n 2, 1) := by decide +kernel
theorem dX10_lengthAt_20 : decode cX10_lengthAt 20 = .ok (.iconst 1, 1) := by decide +kernel
theorem dX10_lengthAt_21 : decode cX10_lengthAt 21 = .ok (.if_icmp .ne 16, 3) := by decide +kernel
theorem dX10_lengthAt_24 : decode cX10_lengthAt 24 = .ok (.lload 4, 2) := by decide +kernel
theorem dX10_lengthAt_26 : decode cX10_lengthAt 26 = .ok (.ldc2_w 140, 3) := by decide +kernel
theorem dX10_lengthAt_29 : decode cX10_lengthAt 29 = .ok (.lmul, 1) := by decide +kernel
theorem dX10_lengthAt_30 : decode cX10_lengthAt 30 = .ok (.ldc2_w 142, 3) := by decide +kernel
theorem dX10_lengthAt_33 : decode cX10_lengthAt 33 = .ok (.ldiv, 1) := by decide +kernel
theorem dX10_lengthAt_34 : decode cX10_lengthAt 34 = .ok (.goto 13, 3) := by decide +kernel
theorem dX10_lengthAt_37 : decode cX10_lengthAt 37 = .ok (.lload 4, 2) := by decide +kernel
theorem dX10_lengthAt_39 : decode cX10_lengthAt 39 = .ok (.ldc2_w 144, 3) := by decide +kernel
theorem dX10_lengthAt_42 : decode cX10_lengthAt 42 = .ok (.lmul, 1) := by decide +kernel
theorem dX10_lengthAt_43 : decode cX10_lengthAt 43 = .ok (.ldc2_w 146, 3) := by decide +kernel
theorem dX10_lengthAt_46 : decode cX10_lengthAt 46 = .ok (.ldiv, 1) := by decide +kernel
theorem dX10_lengthAt_47 : decode cX10_lengthAt 47 = .ok (.lstore 4, 2) := by decide +kernel
theorem dX10_lengthAt_49 : decode cX10_lengthAt 49 = .ok (.iconst 0, 1) := by decide +kernel
theorem dX10_lengthAt_50 : decode cX10_lengthAt 50 = .ok (.istore 6, 2) := by decide +kernel
theorem dX10_lengthAt_52 : decode cX10_lengthAt 52 = .ok (.iload 6, 2) := by decide +kernel
theorem dX10_lengthAt_54 : decode cX10_lengthAt 54 = .ok (.iload_n 3, 1) := by decide +kernel
theorem dX10_lengthAt_55 : decode cX10_lengthAt 55 = .ok (.if_icmp .ge 31, 3) := by decide +kernel
theorem dX10_lengthAt_58 : decode cX10_lengthAt 58 = .ok (.lload 4, 2) := by decide +kernel
theorem dX10_lengthAt_60 : decode cX10_lengthAt 60 = .ok (.aload_n 0, 1) := by decide +kernel
theorem dX10_lengthAt_61 : decode cX10_lengthAt 61 = .ok (.getfield 57, 3) := by decide +kernel
theorem dX10_lengthAt_64 : decode cX10_lengthAt 64 = .ok (.iload 6, 2) := by decide +kernel
theorem dX10_lengthAt_66 : decode cX10_lengthAt 66 = .ok (.iaload, 1) := by decide +kernel
theorem dX10_lengthAt_67 : decode cX10_lengthAt 67 = .ok (.i2l, 1) := by decide +kernel
theorem dX10_lengthAt_68 : decode cX10_lengthAt 68 = .ok (.lmul, 1) := by decide +kernel
theorem dX10_lengthAt_69 : decode cX10_lengthAt 69 = .ok (.aload_n 0, 1) := by decide +kernel
theorem dX10_lengthAt_70 : decode cX10_lengthAt 70 = .ok (.getfield 60, 3) := by decide +kernel
theorem dX10_lengthAt_73 : decode cX10_lengthAt 73 = .ok (.iload 6, 2) := by decide +kernel
theorem dX10_lengthAt_75 : decode cX10_lengthAt 75 = .ok (.iaload, 1) := by decide +kernel
theorem dX10_lengthAt_76 : decode cX10_lengthAt 76 = .ok (.i2l, 1) := by decide +kernel
theorem dX10_lengthAt_77 : decode cX10_lengthAt 77 = .ok (.ldiv, 1) := by decide +kernel
theorem dX10_lengthAt_78 : decode cX10_lengthAt 78 = .ok (.lstore 4, 2) := by decide +kernel
theorem dX10_lengthAt_80 : decode cX10_lengthAt 80 = .ok (.iinc 6 1, 3) := by decide +kernel
theorem dX10_lengthAt_83 : decode cX10_lengthAt 83 = .ok (.goto (-31), 3) := by decide +kernel
theorem dX10_lengthAt_86 : decode cX10_lengthAt 86 = .ok (.lload 4, 2) := by decide +kernel
theorem dX10_lengthAt_88 : decode cX10_lengthAt 88 = .ok (.lreturn, 1) := by decide +kernel
theorem dX10_addsEvent_0 : decode cX10_addsEvent 0 = .ok (.sipush 300, 3) := by decide +kernel
theorem dX10_addsEvent_3 : decode cX10_addsEvent 3 = .ok (.iload_n 1, 1) := by decide +kernel
theorem dX10_addsEvent_4 : decode cX10_addsEvent 4 = .ok (.imul, 1) := by decide +kernel
theorem dX10_addsEvent_5 : decode cX10_addsEvent 5 = .ok (.aload_n 0, 1) := by decide +kernel
theorem dX10_addsEvent_6 : decode cX10_addsEvent 6 = .ok (.getfield 41, 3) := by decide +kernel
theorem dX10_addsEvent_9 : decode cX10_addsEvent 9 = .ok (.iload_n 1, 1) := by decide +kernel
theorem dX10_addsEvent_10 : decode cX10_addsEvent 10 = .ok (.iaload, 1) := by decide +kernel
theorem dX10_addsEvent_11 : decode cX10_addsEvent 11 = .ok (.iadd, 1) := by decide +kernel
theorem dX10_addsEvent_12 : decode cX10_addsEvent 12 = .ok (.istore 9, 2) := by decide +kernel
theorem dX10_addsEvent_14 : decode cX10_addsEvent 14 = .ok (.iload 8, 2) := by decide +kernel
theorem dX10_addsEvent_16 : decode cX10_addsEvent 16 = .ok (.ifCond .eq 31, 3) := by decide +kernel
theorem dX10_addsEvent_19 : decode cX10_addsEvent 19 = .ok (.aload_n 0, 1) := by decide +kernel
theorem dX10_addsEvent_20 : decode cX10_addsEvent 20 = .ok (.getfield 29, 3) := by decide +kernel
theorem dX10_addsEvent_23 : decode cX10_addsEvent 23 = .ok (.iload 9, 2) := by decide +kernel
theorem dX10_addsEvent_25 : decode cX10_addsEvent 25 = .ok (.iconst 1, 1) := by decide +kernel
theorem dX10_addsEvent_26 : decode cX10_addsEvent 26 = .ok (.isub, 1) := by decide +kernel
theorem dX10_addsEvent_27 : decode cX10_addsEvent 27 = .ok (.dup2, 1) := by decide +kernel
theorem dX10_addsEvent_28 : decode cX10_addsEvent 28 = .ok (.laload, 1) := by decide +kernel
theorem dX10_addsEvent_29 : decode cX10_addsEvent 29 = .ok (.lload 4, 2) := by decide +kernel
theorem dX10_addsEvent_31 : decode cX10_addsEvent 31 = .ok (.ladd, 1) := by decide +kernel
theorem dX10_addsEvent_32 : decode cX10_addsEvent 32 = .ok (.lastore, 1) := by decide +kernel
theorem dX10_addsEvent_33 : decode cX10_addsEvent 33 = .ok (.aload_n 0, 1) := by decide +kernel
theorem dX10_addsEvent_34 : decode cX10_addsEvent 34 = .ok (.getfield 38, 3) := by decide +kernel
theorem dX10_addsEvent_37 : decode cX10_addsEvent 37 = .ok (.iload 9, 2) := by decide +kernel
theorem dX10_addsEvent_39 : decode cX10_addsEvent 39 = .ok (.iconst 1, 1) := by decide +kernel
theorem dX10_addsEvent_40 : decode cX10_addsEvent 40 = .ok (.isub, 1) := by decide +kernel
theorem dX10_addsEvent_41 : decode cX10_addsEvent 41 = .ok (.dup2, 1) := by decide +kernel
theorem dX10_addsEvent_42 : decode cX10_addsEvent 42 = .ok (.iaload, 1) := by decide +kernel
theorem dX10_addsEvent_43 : decode cX10_addsEvent 43 = .ok (.iconst 1, 1) := by decide +kernel
theorem dX10_addsEvent_44 : decode cX10_addsEvent 44 = .ok (.iadd, 1) := by decide +kernel
theorem dX10_addsEvent_45 : decode cX10_addsEvent 45 = .ok (.iastore, 1) := by decide +kernel
theorem dX10_addsEvent_46 : decode cX10_addsEvent 46 = .ok (.return_, 1) := by decide +kernel
theorem dX10_addsEvent_47 : decode cX10_addsEvent 47 = .ok (.aload_n 0, 1) := by decide +kernel
theorem dX10_addsEvent_48 : decode cX10_addsEvent 48 = .ok (.getfield 25, 3) := by decide +kernel
theorem dX10_addsEvent_51 : decode cX10_addsEvent 51 = .ok (.iload 9, 2) := by decide +kernel
theorem dX10_addsEvent_53 : decode cX10_addsEvent 53 = .ok (.lload_n 2, 1) := by decide +kernel
theorem dX10_addsEvent_54 : decode cX10_addsEvent 54 = .ok (.lastore, 1) := by decide +kernel
theorem dX10_addsEvent_55 : decode cX10_addsEvent 55 = .ok (.aload_n 0, 1) := by decide +kernel
theorem dX10_addsEvent_56 : decode cX10_addsEvent 56 = .ok (.getfield 29, 3) := by decide +kernel
theorem dX10_addsEvent_59 : decode cX10_addsEvent 59 = .ok (.iload 9, 2) := by decide +kernel
theorem dX10_addsEvent_61 : decode cX10_addsEvent 61 = .ok (.lload 4, 2) := by decide +kernel
theorem dX10_addsEvent_63 : decode cX10_addsEvent 63 = .ok (.lastore, 1) := by decide +kernel
theorem dX10_addsEvent_64 : decode cX10_addsEvent 64 = .ok (.aload_n 0, 1) := by decide +kernel
theorem dX10_addsEvent_65 : decode cX10_addsEvent 65 = .ok (.getfield 32, 3) := by decide +kernel
theorem dX10_addsEvent_68 : decode cX10_addsEvent 68 = .ok (.iload 9, 2) := by decide +kernel
theorem dX10_addsEvent_70 : decode cX10_addsEvent 70 = .ok (.iload 6, 2) := by decide +kernel
theorem dX10_addsEvent_72 : decode cX10_addsEvent 72 = .ok (.ifCond .eq 7, 3) := by decide +kernel
theorem dX10_addsEvent_75 : decode cX10_addsEvent 75 = .ok (.iconst 1, 1) := by decide +kernel
theorem dX10_addsEvent_76 : decode cX10_addsEvent 76 = .ok (.goto 4, 3) := by decide +kernel
theorem dX10_addsEvent_79 : decode cX10_addsEvent 79 = .ok (.iconst 0, 1) := by decide +kernel
theorem dX10_addsEvent_80 : decode cX10_addsEvent 80 = .ok (.iastore, 1) := by decide +kernel
theorem dX10_addsEvent_81 : decode cX10_addsEvent 81 = .ok (.aload_n 0, 1) := by decide +kernel
theorem dX10_addsEvent_82 : decode cX10_addsEvent 82 = .ok (.getfield 35, 3) := by decide +kernel
theorem dX10_addsEvent_85 : decode cX10_addsEvent 85 = .ok (.iload 9, 2) := by decide +kernel
theorem dX10_addsEvent_87 : decode cX10_addsEvent 87 = .ok (.iload 7, 2) := by decide +kernel
theorem dX10_addsEvent_89 : decode cX10_addsEvent 89 = .ok (.iastore, 1) := by decide +kernel
theorem dX10_addsEvent_90 : decode cX10_addsEvent 90 = .ok (.aload_n 0, 1) := by decide +kernel
theorem dX10_addsEvent_91 : decode cX10_addsEvent 91 = .ok (.getfield 38, 3) := by decide +kernel
theorem dX10_addsEvent_94 : decode cX10_addsEvent 94 = .ok (.iload 9, 2) := by decide +kernel
theorem dX10_addsEvent_96 : decode cX10_addsEvent 96 = .ok (.iconst 1, 1) := by decide +kernel
theorem dX10_addsEvent_97 : decode cX10_addsEvent 97 = .ok (.iastore, 1) := by decide +kernel
theorem dX10_addsEvent_98 : decode cX10_addsEvent 98 = .ok (.aload_n 0, 1) := by decide +kernel
theorem dX10_addsEvent_99 : decode cX10_addsEvent 99 = .ok (.getfield 41, 3) := by decide +kernel
theorem dX10_addsEvent_102 : decode cX10_addsEvent 102 = .ok (.iload_n 1, 1) := by decide +kernel
theorem dX10_addsEvent_103 : decode cX10_addsEvent 103 = .ok (.dup2, 1) := by decide +kernel
theorem dX10_addsEvent_104 : decode cX10_addsEvent 104 = .ok (.iaload, 1) := by decide +kernel
theorem dX10_addsEvent_105 : decode cX10_addsEvent 105 = .ok (.iconst 1, 1) := by decide +kernel
theorem dX10_addsEvent_106 : decode cX10_addsEvent 106 = .ok (.iadd, 1) := by decide +kernel
theorem dX10_addsEvent_107 : decode cX10_addsEvent 107 = .ok (.iastore, 1) := by decide +kernel
theorem dX10_addsEvent_108 : decode cX10_addsEvent 108 = .ok (.return_, 1) := by decide +kernel
theorem dX10_works_0 : decode cX10_works 0 = .ok (.aload_n 0, 1) := by decide +kernel
theorem dX10_works_1 : decode cX10_works 1 = .ok (.iload_n 1, 1) := by decide +kernel
theorem dX10_works_2 : decode cX10_works 2 = .ok (.invokevirtual 148, 3) := by decide +kernel
theorem dX10_works_5 : decode cX10_works 5 = .ok (.aload_n 0, 1) := by decide +kernel
theorem dX10_works_6 : decode cX10_works 6 = .ok (.getfield 41, 3) := by decide +kernel
theorem dX10_works_9 : decode cX10_works 9 = .ok (.iload_n 1, 1) := by decide +kernel
theorem dX10_works_10 : decode cX10_works 10 = .ok (.iconst 0, 1) := by decide +kernel
theorem dX10_works_11 : decode cX10_works 11 = .ok (.iastore, 1) := by decide +kernel
theorem dX10_works_12 : decode cX10_works 12 = .ok (.aload_n 0, 1) := by decide +kernel
theorem dX10_works_13 : decode cX10_works 13 = .ok (.iconst 0, 1) := by decide +kernel
theorem dX10_works_14 : decode cX10_works 14 = .ok (.putfield 152, 3) := by decide +kernel
theorem dX10_works_17 : decode cX10_works 17 = .ok (.lconst 0, 1) := by decide +kernel
theorem dX10_works_18 : decode cX10_works 18 = .ok (.lstore_n 2, 1) := by decide +kernel
theorem dX10_works_19 : decode cX10_works 19 = .ok (.iconst 0, 1) := by decide +kernel
theorem dX10_works_20 : decode cX10_works 20 = .ok (.istore 4, 2) := by decide +kernel
theorem dX10_works_22 : decode cX10_works 22 = .ok (.iconst 0, 1) := by decide +kernel
theorem dX10_works_23 : decode cX10_works 23 = .ok (.istore 5, 2) := by decide +kernel
theorem dX10_works_25 : decode cX10_works 25 = .ok (.iconst 0, 1) := by decide +kernel
theorem dX10_works_26 : decode cX10_works 26 = .ok (.istore 6, 2) := by decide +kernel
theorem dX10_works_28 : decode cX10_works 28 = .ok (.iconst 0, 1) := by decide +kernel
theorem dX10_works_29 : decode cX10_works 29 = .ok (.istore 7, 2) := by decide +kernel
theorem dX10_works_31 : decode cX10_works 31 = .ok (.iconst 0, 1) := by decide +kernel
theorem dX10_works_32 : decode cX10_works 32 = .ok (.istore 8, 2) := by decide +kernel
theorem dX10_works_34 : decode cX10_works 34 = .ok (.aload_n 0, 1) := by decide +kernel
theorem dX10_works_35 : decode cX10_works 35 = .ok (.getfield 50, 3) := by decide +kernel
theorem dX10_works_38 : decode cX10_works 38 = .ok (.iconst 0, 1) := by decide +kernel
theorem dX10_works_39 : decode cX10_works 39 = .ok (.lconst 0, 1) := by decide +kernel
theorem dX10_works_40 : decode cX10_works 40 = .ok (.lastore, 1) := by decide +kernel
theorem dX10_works_41 : decode cX10_works 41 = .ok (.aload_n 0, 1) := by decide +kernel
theorem dX10_works_42 : decode cX10_works 42 = .ok (.getfield 53, 3) := by decide +kernel
theorem dX10_works_45 : decode cX10_works 45 = .ok (.iconst 0, 1) := by decide +kernel
theorem dX10_works_46 : decode cX10_works 46 = .ok (.iconst 1, 1) := by decide +kernel
theorem dX10_works_47 : decode cX10_works 47 = .ok (.bastore, 1) := by decide +kernel
theorem dX10_works_48 : decode cX10_works 48 = .ok (.iconst 0, 1) := by decide +kernel
theorem dX10_works_49 : decode cX10_works 49 = .ok (.istore 9, 2) := by decide +kernel
theorem dX10_works_51 : decode cX10_works 51 = .ok (.iload 9, 2) := by decide +kernel
theorem dX10_works_53 : decode cX10_works 53 = .ok (.aload_n 0, 1) := by decide +kernel
theorem dX10_works_54 : decode cX10_works 54 = .ok (.getfield 124, 3) := by decide +kernel
theorem dX10_works_57 : decode cX10_works 57 = .ok (.if_icmp .ge 314, 3) := by decide +kernel
theorem dX10_works_60 : decode cX10_works 60 = .ok (.aload_n 0, 1) := by decide +kernel
theorem dX10_works_61 : decode cX10_works 61 = .ok (.getfield 152, 3) := by decide +kernel
theorem dX10_works_64 : decode cX10_works 64 = .ok (.sipush 300, 3) := by decide +kernel
theorem dX10_works_67 : decode cX10_works 67 = .ok (.if_icmp .gt 304, 3) := by decide +kernel
theorem dX10_works_70 : decode cX10_works 70 = .ok (.aload_n 0, 1) := by decide +kernel
theorem dX10_works_71 : decode cX10_works 71 = .ok (.getfield 22, 3) := by decide +kernel
theorem dX10_works_74 : decode cX10_works 74 = .ok (.iload 9, 2) := by decide +kernel
theorem dX10_works_76 : decode cX10_works 76 = .ok (.iaload, 1) := by decide +kernel
theorem dX10_works_77 : decode cX10_works 77 = .ok (.istore 10, 2) := by decide +kernel
theorem dX10_works_79 : decode cX10_works 79 = .ok (.iload 10, 2) := by decide +kernel
theorem dX10_works_81 : decode cX10_works 81 = .ok (.bipush 123, 2) := by decide +kernel
theorem dX10_works_83 : decode cX10_works 83 = .ok (.if_icmp .ne 50, 3) := by decide +kernel
theorem dX10_works_86 : decode cX10_works 86 = .ok (.aload_n 0, 1) := by decide +kernel
theorem dX10_works_87 : decode cX10_works 87 = .ok (.getfield 60, 3) := by decide +kernel
theorem dX10_works_90 : decode cX10_works 90 = .ok (.iload 4, 2) := by decide +kernel
theorem dX10_works_92 : decode cX10_works 92 = .ok (.aload_n 0, 1) := by decide +kernel
theorem dX10_works_93 : decode cX10_works 93 = .ok (.getfield 22, 3) := by decide +kernel
theorem dX10_works_96 : decode cX10_works 96 = .ok (.iload 9, 2) := by decide +kernel
theorem dX10_works_98 : decode cX10_works 98 = .ok (.iconst 1, 1) := by decide +kernel
theorem dX10_works_99 : decode cX10_works 99 = .ok (.iadd, 1) := by decide +kernel
theorem dX10_works_100 : decode cX10_works 100 = .ok (.iaload, 1) := by decide +kernel
theorem dX10_works_101 : decode cX10_works 101 = .ok (.bipush 48, 2) := by decide +kernel
theorem dX10_works_103 : decode cX10_works 103 = .ok (.isub, 1) := by decide +kernel
theorem dX10_works_104 : decode cX10_works 104 = .ok (.iastore, 1) := by decide +kernel
theorem dX10_works_105 : decode cX10_works 105 = .ok (.aload_n 0, 1) := by decide +kernel
theorem dX10_works_106 : decode cX10_works 106 = .ok (.getfield 57, 3) := by decide +kernel
theorem dX10_works_109 : decode cX10_works 109 = .ok (.iload 4, 2) := by decide +kernel
theorem dX10_works_111 : decode cX10_works 111 = .ok (.aload_n 0, 1) := by decide +kernel
theorem dX10_works_112 : decode cX10_works 112 = .ok (.getfield 22, 3) := by decide +kernel
theorem dX10_works_115 : decode cX10_works 115 = .ok (.iload 9, 2) := by decide +kernel
theorem dX10_works_117 : decode cX10_works 117 = .ok (.iconst 3, 1) := by decide +kernel
theorem dX10_works_118 : decode cX10_works 118 = .ok (.iadd, 1) := by decide +kernel
theorem dX10_works_119 : decode cX10_works 119 = .ok (.iaload, 1) := by decide +kernel
theorem dX10_works_120 : decode cX10_works 120 = .ok (.bipush 48, 2) := by decide +kernel
theorem dX10_works_122 : decode cX10_works 122 = .ok (.isub, 1) := by decide +kernel
theorem dX10_works_123 : decode cX10_works 123 = .ok (.iastore, 1) := by decide +kernel
theorem dX10_works_124 : decode cX10_works 124 = .ok (.iinc 4 1, 3) := by decide +kernel
theorem dX10_works_127 : decode cX10_works 127 = .ok (.iinc 9 3, 3) := by decide +kernel
theorem dX10_works_130 : decode cX10_works 130 = .ok (.goto 235, 3) := by decide +kernel
theorem dX10_works_133 : decode cX10_works 133 = .ok (.iload 10, 2) := by decide +kernel
theorem dX10_works_135 : decode cX10_works 135 = .ok (.bipush 125, 2) := by decide +kernel
theorem dX10_works_137 : decode cX10_works 137 = .ok (.if_icmp .ne 9, 3) := by decide +kernel
theorem dX10_works_140 : decode cX10_works 140 = .ok (.iinc 4 (-1), 3) := by decide +kernel
theorem dX10_works_143 : decode cX10_works 143 = .ok (.goto 222, 3) := by decide +kernel
theorem dX10_works_146 : decode cX10_works 146 = .ok (.iload 10, 2) := by decide +kernel
theorem dX10_works_148 : decode cX10_works 148 = .ok (.bipush 124, 2) := by decide +kernel
theorem dX10_works_150 : decode cX10_works 150 = .ok (.if_icmp .ne 25, 3) := by decide +kernel
theorem dX10_works_153 : decode cX10_works 153 = .ok (.iinc 5 1, 3) := by decide +kernel
theorem dX10_works_156 : decode cX10_works 156 = .ok (.aload_n 0, 1) := by decide +kernel
theorem dX10_works_157 : decode cX10_works 157 = .ok (.getfield 50, 3) := by decide +kernel
theorem dX10_works_160 : decode cX10_works 160 = .ok (.iload 5, 2) := by decide +kernel
theorem dX10_works_162 : decode cX10_works 162 = .ok (.lconst 0, 1) := by decide +kernel
theorem dX10_works_163 : decode cX10_works 163 = .ok (.lastore, 1) := by decide +kernel
theorem dX10_works_164 : decode cX10_works 164 = .ok (.aload_n 0, 1) := by decide +kernel
theorem dX10_works_165 : decode cX10_works 165 = .ok (.getfield 53, 3) := by decide +kernel
theorem dX10_works_168 : decode cX10_works 168 = .ok (.iload 5, 2) := by decide +kernel
theorem dX10_works_170 : decode cX10_works 170 = .ok (.iconst 1, 1) := by decide +kernel
theorem dX10_works_171 : decode cX10_works 171 = .ok (.bastore, 1) := by decide +kernel
theorem dX10_works_172 : decode cX10_works 172 = .ok (.goto 193, 3) := by decide +kernel
theorem dX10_works_175 : decode cX10_works 175 = .ok (.iload 10, 2) := by decide +kernel
theorem dX10_works_177 : decode cX10_works 177 = .ok (.bipush 94, 2) := by decide +kernel
theorem dX10_works_179 : decode cX10_works 179 = .ok (.if_icmp .ne 9, 3) := by decide +kernel
theorem dX10_works_182 : decode cX10_works 182 = .ok (.iconst 1, 1) := by decide +kernel
theorem dX10_works_183 : decode cX10_works 183 = .ok (.istore 7, 2) := by decide +kernel
theorem dX10_works_185 : decode cX10_works 185 = .ok (.goto 180, 3) := by decide +kernel
theorem dX10_works_188 : decode cX10_works 188 = .ok (.iload 10, 2) := by decide +kernel
theorem dX10_works_190 : decode cX10_works 190 = .ok (.bipush 114, 2) := by decide +kernel
theorem dX10_works_192 : decode cX10_works 192 = .ok (.if_icmp .ne 9, 3) := by decide +kernel
theorem dX10_works_195 : decode cX10_works 195 = .ok (.iconst 1, 1) := by decide +kernel
theorem dX10_works_196 : decode cX10_works 196 = .ok (.istore 8, 2) := by decide +kernel
theorem dX10_works_198 : decode cX10_works 198 = .ok (.goto 167, 3) := by decide +kernel
theorem dX10_works_201 : decode cX10_works 201 = .ok (.iload 10, 2) := by decide +kernel
theorem dX10_works_203 : decode cX10_works 203 = .ok (.invokestatic 83, 3) := by decide +kernel
theorem dX10_works_206 : decode cX10_works 206 = .ok (.ifCond .lt 159, 3) := by decide +kernel
theorem dX10_works_209 : decode cX10_works 209 = .ok (.iconst 0, 1) := by decide +kernel
theorem dX10_works_210 : decode cX10_works 210 = .ok (.istore 11, 2) := by decide +kernel
theorem dX10_works_212 : decode cX10_works 212 = .ok (.iload 9, 2) := by decide +kernel
theorem dX10_works_214 : decode cX10_works 214 = .ok (.iconst 1, 1) := by decide +kernel
theorem dX10_works_215 : decode cX10_works 215 = .ok (.iadd, 1) := by decide +kernel
theorem dX10_works_216 : decode cX10_works 216 = .ok (.aload_n 0, 1) := by decide +kernel
theorem dX10_works_217 : decode cX10_works 217 = .ok (.getfield 124, 3) := by decide +kernel
theorem dX10_works_220 : decode cX10_works 220 = .ok (.if_icmp .ge 26, 3) := by decide +kernel
theorem dX10_works_223 : decode cX10_works 223 = .ok (.aload_n 0, 1) := by decide +kernel
theorem dX10_works_224 : decode cX10_works 224 = .ok (.getfield 22, 3) := by decide +kernel
theorem dX10_works_227 : decode cX10_works 227 = .ok (.iload 9, 2) := by decide +kernel
theorem dX10_works_229 : decode cX10_works 229 = .ok (.iconst 1, 1) := by decide +kernel
theorem dX10_works_230 : decode cX10_works 230 = .ok (.iadd, 1) := by decide +kernel
theorem dX10_works_231 : decode cX10_works 231 = .ok (.iaload, 1) := by decide +kernel
theorem dX10_works_232 : decode cX10_works 232 = .ok (.bipush 46, 2) := by decide +kernel
theorem dX10_works_234 : decode cX10_works 234 = .ok (.if_icmp .ne 12, 3) := by decide +kernel
theorem dX10_works_237 : decode cX10_works 237 = .ok (.iinc 11 1, 3) := by decide +kernel
theorem dX10_works_240 : decode cX10_works 240 = .ok (.iinc 9 1, 3) := by decide +kernel
theorem dX10_works_243 : decode cX10_works 243 = .ok (.goto (-31), 3) := by decide +kernel
theorem dX10_works_246 : decode cX10_works 246 = .ok (.aload_n 0, 1) := by decide +kernel
theorem dX10_works_247 : decode cX10_works 247 = .ok (.iload 10, 2) := by decide +kernel
theorem dX10_works_249 : decode cX10_works 249 = .ok (.iload 11, 2) := by decide +kernel
theorem dX10_works_251 : decode cX10_works 251 = .ok (.iload 4, 2) := by decide +kernel
theorem dX10_works_253 : decode cX10_works 253 = .ok (.invokevirtual 155, 3) := by decide +kernel
theorem dX10_works_256 : decode cX10_works 256 = .ok (.lstore 12, 2) := by decide +kernel
theorem dX10_works_258 : decode cX10_works 258 = .ok (.aload_n 0, 1) := by decide +kernel
theorem dX10_works_259 : decode cX10_works 259 = .ok (.dup, 1) := by decide +kernel
theorem dX10_works_260 : decode cX10_works 260 = .ok (.getfield 152, 3) := by decide +kernel
theorem dX10_works_263 : decode cX10_works 263 = .ok (.iconst 1, 1) := by decide +kernel
theorem dX10_works_264 : decode cX10_works 264 = .ok (.iadd, 1) := by decide +kernel
theorem dX10_works_265 : decode cX10_works 265 = .ok (.putfield 152, 3) := by decide +kernel
theorem dX10_works_268 : decode cX10_works 268 = .ok (.iload 8, 2) := by decide +kernel
theorem dX10_works_270 : decode cX10_works 270 = .ok (.ifCond .ne 27, 3) := by decide +kernel
theorem dX10_works_273 : decode cX10_works 273 = .ok (.aload_n 0, 1) := by decide +kernel
theorem dX10_works_274 : decode cX10_works 274 = .ok (.getfield 152, 3) := by decide +kernel
theorem dX10_works_277 : decode cX10_works 277 = .ok (.sipush 300, 3) := by decide +kernel
theorem dX10_works_280 : decode cX10_works 280 = .ok (.if_icmp .gt 17, 3) := by decide +kernel
theorem dX10_works_283 : decode cX10_works 283 = .ok (.aload_n 0, 1) := by decide +kernel
theorem dX10_works_284 : decode cX10_works 284 = .ok (.iload_n 1, 1) := by decide +kernel
theorem dX10_works_285 : decode cX10_works 285 = .ok (.lload_n 2, 1) := by decide +kernel
theorem dX10_works_286 : decode cX10_works 286 = .ok (.lload 12, 2) := by decide +kernel
theorem dX10_works_288 : decode cX10_works 288 = .ok (.iload 7, 2) := by decide +kernel
theorem dX10_works_290 : decode cX10_works 290 = .ok (.iload 5, 2) := by decide +kernel
theorem dX10_works_292 : decode cX10_works 292 = .ok (.iload 6, 2) := by decide +kernel
theorem dX10_works_294 : decode cX10_works 294 = .ok (.invokevirtual 159, 3) := by decide +kernel
theorem dX10_works_297 : decode cX10_works 297 = .ok (.iload 8, 2) := by decide +kernel
theorem dX10_works_299 : decode cX10_works 299 = .ok (.ifCond .ne 32, 3) := by decide +kernel
theorem dX10_works_302 : decode cX10_works 302 = .ok (.iload 9, 2) := by decide +kernel
theorem dX10_works_304 : decode cX10_works 304 = .ok (.iconst 1, 1) := by decide +kernel
theorem dX10_works_305 : decode cX10_works 305 = .ok (.iadd, 1) := by decide +kernel
theorem dX10_works_306 : decode cX10_works 306 = .ok (.aload_n 0, 1) := by decide +kernel
theorem dX10_works_307 : decode cX10_works 307 = .ok (.getfield 124, 3) := by decide +kernel
theorem dX10_works_310 : decode cX10_works 310 = .ok (.if_icmp .ge 21, 3) := by decide +kernel
theorem dX10_works_313 : decode cX10_works 313 = .ok (.aload_n 0, 1) := by decide +kernel
theorem dX10_works_314 : decode cX10_works 314 = .ok (.getfield 22, 3) := by decide +kernel
theorem dX10_works_317 : decode cX10_works 317 = .ok (.iload 9, 2) := by decide +kernel
theorem dX10_works_319 : decode cX10_works 319 = .ok (.iconst 1, 1) := by decide +kernel
theorem dX10_works_320 : decode cX10_works 320 = .ok (.iadd, 1) := by decide +kernel
theorem dX10_works_321 : decode cX10_works 321 = .ok (.iaload, 1) := by decide +kernel
theorem dX10_works_322 : decode cX10_works 322 = .ok (.bipush 126, 2) := by decide +kernel
theorem dX10_works_324 : decode cX10_works 324 = .ok (.if_icmp .ne 7, 3) := by decide +kernel
theorem dX10_works_327 : decode cX10_works 327 = .ok (.iconst 1, 1) := by decide +kernel
theorem dX10_works_328 : decode cX10_works 328 = .ok (.goto 4, 3) := by decide +kernel
theorem dX10_works_331 : decode cX10_works 331 = .ok (.iconst 0, 1) := by decide +kernel
theorem dX10_works_332 : decode cX10_works 332 = .ok (.istore 6, 2) := by decide +kernel
theorem dX10_works_334 : decode cX10_works 334 = .ok (.iconst 0, 1) := by decide +kernel
theorem dX10_works_335 : decode cX10_works 335 = .ok (.istore 8, 2) := by decide +kernel
theorem dX10_works_337 : decode cX10_works 337 = .ok (.iconst 0, 1) := by decide +kernel
theorem dX10_works_338 : decode cX10_works 338 = .ok (.istore 7, 2) := by decide +kernel
theorem dX10_works_340 : decode cX10_works 340 = .ok (.lload_n 2, 1) := by decide +kernel
theorem dX10_works_341 : decode cX10_works 341 = .ok (.lload 12, 2) := by decide +kernel
theorem dX10_works_343 : decode cX10_works 343 = .ok (.ladd, 1) := by decide +kernel
theorem dX10_works_344 : decode cX10_works 344 = .ok (.lstore_n 2, 1) := by decide +kernel
theorem dX10_works_345 : decode cX10_works 345 = .ok (.aload_n 0, 1) := by decide +kernel
theorem dX10_works_346 : decode cX10_works 346 = .ok (.getfield 50, 3) := by decide +kernel
theorem dX10_works_349 : decode cX10_works 349 = .ok (.iload 5, 2) := by decide +kernel
theorem dX10_works_351 : decode cX10_works 351 = .ok (.dup2, 1) := by decide +kernel
theorem dX10_works_352 : decode cX10_works 352 = .ok (.laload, 1) := by decide +kernel
theorem dX10_works_353 : decode cX10_works 353 = .ok (.lload 12, 2) := by decide +kernel
theorem dX10_works_355 : decode cX10_works 355 = .ok (.ladd, 1) := by decide +kernel
theorem dX10_works_356 : decode cX10_works 356 = .ok (.lastore, 1) := by decide +kernel
theorem dX10_works_357 : decode cX10_works 357 = .ok (.aload_n 0, 1) := by decide +kernel
theorem dX10_works_358 : decode cX10_works 358 = .ok (.getfield 53, 3) := by decide +kernel
theorem dX10_works_361 : decode cX10_works 361 = .ok (.iload 5, 2) := by decide +kernel
theorem dX10_works_363 : decode cX10_works 363 = .ok (.iconst 0, 1) := by decide +kernel
theorem dX10_works_364 : decode cX10_works 364 = .ok (.bastore, 1) := by decide +kernel
theorem dX10_works_365 : decode cX10_works 365 = .ok (.iinc 9 1, 3) := by decide +kernel
theorem dX10_works_368 : decode cX10_works 368 = .ok (.goto (-317), 3) := by decide +kernel
theorem dX10_works_371 : decode cX10_works 371 = .ok (.aload_n 0, 1) := by decide +kernel
theorem dX10_works_372 : decode cX10_works 372 = .ok (.getfield 44, 3) := by decide +kernel
theorem dX10_works_375 : decode cX10_works 375 = .ok (.iload_n 1, 1) := by decide +kernel
theorem dX10_works_376 : decode cX10_works 376 = .ok (.lload_n 2, 1) := by decide +kernel
theorem dX10_works_377 : decode cX10_works 377 = .ok (.lastore, 1) := by decide +kernel
theorem dX10_works_378 : decode cX10_works 378 = .ok (.aload_n 0, 1) := by decide +kernel
theorem dX10_works_379 : decode cX10_works 379 = .ok (.getfield 47, 3) := by decide +kernel
theorem dX10_works_382 : decode cX10_works 382 = .ok (.iload_n 1, 1) := by decide +kernel
theorem dX10_works_383 : decode cX10_works 383 = .ok (.iload 5, 2) := by decide +kernel
theorem dX10_works_385 : decode cX10_works 385 = .ok (.iconst 1, 1) := by decide +kernel
theorem dX10_works_386 : decode cX10_works 386 = .ok (.iadd, 1) := by decide +kernel
theorem dX10_works_387 : decode cX10_works 387 = .ok (.iastore, 1) := by decide +kernel
theorem dX10_works_388 : decode cX10_works 388 = .ok (.return_, 1) := by decide +kernel
theorem dX10_type_0 : decode cX10_type 0 = .ok (.iload_n 1, 1) := by decide +kernel
theorem dX10_type_1 : decode cX10_type 1 = .ok (.bipush 32, 2) := by decide +kernel
theorem dX10_type_3 : decode cX10_type 3 = .ok (.bipush 126, 2) := by decide +kernel
theorem dX10_type_5 : decode cX10_type 5 = .ok (.invokestatic 76, 3) := by decide +kernel
theorem dX10_type_8 : decode cX10_type 8 = .ok (.ifCond .ne 5, 3) := by decide +kernel
theorem dX10_type_11 : decode cX10_type 11 = .ok (.iconst (-1), 1) := by decide +kernel
theorem dX10_type_12 : decode cX10_type 12 = .ok (.ireturn, 1) := by decide +kernel
theorem dX10_type_13 : decode cX10_type 13 = .ok (.aload_n 0, 1) := by decide +kernel
theorem dX10_type_14 : decode cX10_type 14 = .ok (.getfield 114, 3) := by decide +kernel
theorem dX10_type_17 : decode cX10_type 17 = .ok (.bipush 100, 2) := by decide +kernel
theorem dX10_type_19 : decode cX10_type 19 = .ok (.if_icmp .ne 6, 3) := by decide +kernel
theorem dX10_type_22 : decode cX10_type 22 = .ok (.bipush (-3), 2) := by decide +kernel
theorem dX10_type_24 : decode cX10_type 24 = .ok (.ireturn, 1) := by decide +kernel
theorem dX10_type_25 : decode cX10_type 25 = .ok (.aload_n 0, 1) := by decide +kernel
theorem dX10_type_26 : decode cX10_type 26 = .ok (.getfield 16, 3) := by decide +kernel
theorem dX10_type_29 : decode cX10_type 29 = .ok (.aload_n 0, 1) := by decide +kernel
theorem dX10_type_30 : decode cX10_type 30 = .ok (.getfield 114, 3) := by decide +kernel
theorem dX10_type_33 : decode cX10_type 33 = .ok (.iload_n 1, 1) := by decide +kernel
theorem dX10_type_34 : decode cX10_type 34 = .ok (.iastore, 1) := by decide +kernel
theorem dX10_type_35 : decode cX10_type 35 = .ok (.aload_n 0, 1) := by decide +kernel
theorem dX10_type_36 : decode cX10_type 36 = .ok (.dup, 1) := by decide +kernel
theorem dX10_type_37 : decode cX10_type 37 = .ok (.getfield 114, 3) := by decide +kernel
theorem dX10_type_40 : decode cX10_type 40 = .ok (.iconst 1, 1) := by decide +kernel
theorem dX10_type_41 : decode cX10_type 41 = .ok (.iadd, 1) := by decide +kernel
theorem dX10_type_42 : decode cX10_type 42 = .ok (.putfield 114, 3) := by decide +kernel
theorem dX10_type_45 : decode cX10_type 45 = .ok (.aload_n 0, 1) := by decide +kernel
theorem dX10_type_46 : decode cX10_type 46 = .ok (.getfield 114, 3) := by decide +kernel
theorem dX10_type_49 : decode cX10_type 49 = .ok (.ireturn, 1) := by decide +kernel
theorem dX10_clear_0 : decode cX10_clear 0 = .ok (.aload_n 0, 1) := by decide +kernel
theorem dX10_clear_1 : decode cX10_clear 1 = .ok (.getfield 114, 3) := by decide +kernel
theorem dX10_clear_4 : decode cX10_clear 4 = .ok (.istore_n 1, 1) := by decide +kernel
theorem dX10_clear_5 : decode cX10_clear 5 = .ok (.aload_n 0, 1) := by decide +kernel
theorem dX10_clear_6 : decode cX10_clear 6 = .ok (.iconst 0, 1) := by decide +kernel
theorem dX10_clear_7 : decode cX10_clear 7 = .ok (.putfield 114, 3) := by decide +kernel
theorem dX10_clear_10 : decode cX10_clear 10 = .ok (.iload_n 1, 1) := by decide +kernel
theorem dX10_clear_11 : decode cX10_clear 11 = .ok (.ireturn, 1) := by decide +kernel
theorem dX10_takes_0 : decode cX10_takes 0 = .ok (.aload_n 0, 1) := by decide +kernel
theorem dX10_takes_1 : decode cX10_takes 1 = .ok (.getfield 7, 3) := by decide +kernel
theorem dX10_takes_4 : decode cX10_takes 4 = .ok (.bipush 101, 2) := by decide +kernel
theorem dX10_takes_6 : decode cX10_takes 6 = .ok (.iload_n 1, 1) := by decide +kernel
theorem dX10_takes_7 : decode cX10_takes 7 = .ok (.imul, 1) := by decide +kernel
theorem dX10_takes_8 : decode cX10_takes 8 = .ok (.iload_n 3, 1) := by decide +kernel
theorem dX10_takes_9 : decode cX10_takes 9 = .ok (.iastore, 1) := by decide +kernel
theorem dX10_takes_10 : decode cX10_takes 10 = .ok (.iconst 0, 1) := by decide +kernel
theorem dX10_takes_11 : decode cX10_takes 11 = .ok (.istore 4, 2) := by decide +kernel
theorem dX10_takes_13 : decode cX10_takes 13 = .ok (.iload 4, 2) := by decide +kernel
theorem dX10_takes_15 : decode cX10_takes 15 = .ok (.bipush 100, 2) := by decide +kernel
theorem dX10_takes_17 : decode cX10_takes 17 = .ok (.if_icmp .ge 37, 3) := by decide +kernel
theorem dX10_takes_20 : decode cX10_takes 20 = .ok (.aload_n 0, 1) := by decide +kernel
theorem dX10_takes_21 : decode cX10_takes 21 = .ok (.getfield 7, 3) := by decide +kernel
theorem dX10_takes_24 : decode cX10_takes 24 = .ok (.bipush 101, 2) := by decide +kernel
theorem dX10_takes_26 : decode cX10_takes 26 = .ok (.iload_n 1, 1) := by decide +kernel
theorem dX10_takes_27 : decode cX10_takes 27 = .ok (.imul, 1) := by decide +kernel
theorem dX10_takes_28 : decode cX10_takes 28 = .ok (.iconst 1, 1) := by decide +kernel
theorem dX10_takes_29 : decode cX10_takes 29 = .ok (.iadd, 1) := by decide +kernel
theorem dX10_takes_30 : decode cX10_takes 30 = .ok (.iload 4, 2) := by decide +kernel
theorem dX10_takes_32 : decode cX10_takes 32 = .ok (.iadd, 1) := by decide +kernel
theorem dX10_takes_33 : decode cX10_takes 33 = .ok (.iload 4, 2) := by decide +kernel
theorem dX10_takes_35 : decode cX10_takes 35 = .ok (.iload_n 3, 1) := by decide +kernel
theorem dX10_takes_36 : decode cX10_takes 36 = .ok (.if_icmp .ge 10, 3) := by decide +kernel
theorem dX10_takes_39 : decode cX10_takes 39 = .ok (.aload_n 2, 1) := by decide +kernel
theorem dX10_takes_40 : decode cX10_takes 40 = .ok (.iload 4, 2) := by decide +kernel
theorem dX10_takes_42 : decode cX10_takes 42 = .ok (.iaload, 1) := by decide +kernel
theorem dX10_takes_43 : decode cX10_takes 43 = .ok (.goto 4, 3) := by decide +kernel
theorem dX10_takes_46 : decode cX10_takes 46 = .ok (.iconst 0, 1) := by decide +kernel
theorem dX10_takes_47 : decode cX10_takes 47 = .ok (.iastore, 1) := by decide +kernel
theorem dX10_takes_48 : decode cX10_takes 48 = .ok (.iinc 4 1, 3) := by decide +kernel
theorem dX10_takes_51 : decode cX10_takes 51 = .ok (.goto (-38), 3) := by decide +kernel
theorem dX10_takes_54 : decode cX10_takes 54 = .ok (.return_, 1) := by decide +kernel
theorem dX10_read_0 : decode cX10_read 0 = .ok (.iload_n 1, 1) := by decide +kernel
theorem dX10_read_1 : decode cX10_read 1 = .ok (.invokestatic 163, 3) := by decide +kernel
theorem dX10_read_4 : decode cX10_read 4 = .ok (.ifCond .ne 5, 3) := by decide +kernel
theorem dX10_read_7 : decode cX10_read 7 = .ok (.iconst (-1), 1) := by decide +kernel
theorem dX10_read_8 : decode cX10_read 8 = .ok (.ireturn, 1) := by decide +kernel
theorem dX10_read_9 : decode cX10_read 9 = .ok (.aload_n 0, 1) := by decide +kernel
theorem dX10_read_10 : decode cX10_read 10 = .ok (.invokevirtual 166, 3) := by decide +kernel
theorem dX10_read_13 : decode cX10_read 13 = .ok (.istore_n 2, 1) := by decide +kernel
theorem dX10_read_14 : decode cX10_read 14 = .ok (.iload_n 2, 1) := by decide +kernel
theorem dX10_read_15 : decode cX10_read 15 = .ok (.ifCond .lt 8, 3) := by decide +kernel
theorem dX10_read_18 : decode cX10_read 18 = .ok (.bipush (-100), 2) := by decide +kernel
theorem dX10_read_20 : decode cX10_read 20 = .ok (.iload_n 2, 1) := by decide +kernel
theorem dX10_read_21 : decode cX10_read 21 = .ok (.isub, 1) := by decide +kernel
theorem dX10_read_22 : decode cX10_read 22 = .ok (.ireturn, 1) := by decide +kernel
theorem dX10_read_23 : decode cX10_read 23 = .ok (.iconst 0, 1) := by decide +kernel
theorem dX10_read_24 : decode cX10_read 24 = .ok (.istore_n 3, 1) := by decide +kernel
theorem dX10_read_25 : decode cX10_read 25 = .ok (.iload_n 3, 1) := by decide +kernel
theorem dX10_read_26 : decode cX10_read 26 = .ok (.bipush 101, 2) := by decide +kernel
theorem dX10_read_28 : decode cX10_read 28 = .ok (.if_icmp .ge 26, 3) := by decide +kernel
theorem dX10_read_31 : decode cX10_read 31 = .ok (.aload_n 0, 1) := by decide +kernel
theorem dX10_read_32 : decode cX10_read 32 = .ok (.getfield 63, 3) := by decide +kernel
theorem dX10_read_35 : decode cX10_read 35 = .ok (.iload_n 3, 1) := by decide +kernel
theorem dX10_read_36 : decode cX10_read 36 = .ok (.aload_n 0, 1) := by decide +kernel
theorem dX10_read_37 : decode cX10_read 37 = .ok (.getfield 7, 3) := by decide +kernel
theorem dX10_read_40 : decode cX10_read 40 = .ok (.bipush 101, 2) := by decide +kernel
theorem dX10_read_42 : decode cX10_read 42 = .ok (.iload_n 1, 1) := by decide +kernel
theorem dX10_read_43 : decode cX10_read 43 = .ok (.imul, 1) := by decide +kernel
theorem dX10_read_44 : decode cX10_read 44 = .ok (.iload_n 3, 1) := by decide +kernel
theorem dX10_read_45 : decode cX10_read 45 = .ok (.iadd, 1) := by decide +kernel
theorem dX10_read_46 : decode cX10_read 46 = .ok (.iaload, 1) := by decide +kernel
theorem dX10_read_47 : decode cX10_read 47 = .ok (.iastore, 1) := by decide +kernel
theorem dX10_read_48 : decode cX10_read 48 = .ok (.iinc 3 1, 3) := by decide +kernel
theorem dX10_read_51 : decode cX10_read 51 = .ok (.goto (-26), 3) := by decide +kernel
theorem dX10_read_54 : decode cX10_read 54 = .ok (.aload_n 0, 1) := by decide +kernel
theorem dX10_read_55 : decode cX10_read 55 = .ok (.iload_n 1, 1) := by decide +kernel
theorem dX10_read_56 : decode cX10_read 56 = .ok (.aload_n 0, 1) := by decide +kernel
theorem dX10_read_57 : decode cX10_read 57 = .ok (.getfield 16, 3) := by decide +kernel
theorem dX10_read_60 : decode cX10_read 60 = .ok (.aload_n 0, 1) := by decide +kernel
theorem dX10_read_61 : decode cX10_read 61 = .ok (.getfield 114, 3) := by decide +kernel
theorem dX10_read_64 : decode cX10_read 64 = .ok (.invokevirtual 170, 3) := by decide +kernel
theorem dX10_read_67 : decode cX10_read 67 = .ok (.aload_n 0, 1) := by decide +kernel
theorem dX10_read_68 : decode cX10_read 68 = .ok (.iload_n 1, 1) := by decide +kernel
theorem dX10_read_69 : decode cX10_read 69 = .ok (.invokevirtual 174, 3) := by decide +kernel
theorem dX10_read_72 : decode cX10_read 72 = .ok (.aload_n 0, 1) := by decide +kernel
theorem dX10_read_73 : decode cX10_read 73 = .ok (.getfield 152, 3) := by decide +kernel
theorem dX10_read_76 : decode cX10_read 76 = .ok (.sipush 300, 3) := by decide +kernel
theorem dX10_read_79 : decode cX10_read 79 = .ok (.if_icmp .le 7, 3) := by decide +kernel
theorem dX10_read_82 : decode cX10_read 82 = .ok (.iconst 1, 1) := by decide +kernel
theorem dX10_read_83 : decode cX10_read 83 = .ok (.goto 4, 3) := by decide +kernel
theorem dX10_read_86 : decode cX10_read 86 = .ok (.iconst 0, 1) := by decide +kernel
theorem dX10_read_87 : decode cX10_read 87 = .ok (.istore_n 3, 1) := by decide +kernel
theorem dX10_read_88 : decode cX10_read 88 = .ok (.iconst 0, 1) := by decide +kernel
theorem dX10_read_89 : decode cX10_read 89 = .ok (.istore 4, 2) := by decide +kernel
theorem dX10_read_91 : decode cX10_read 91 = .ok (.iload 4, 2) := by decide +kernel
theorem dX10_read_93 : decode cX10_read 93 = .ok (.bipush 101, 2) := by decide +kernel
theorem dX10_read_95 : decode cX10_read 95 = .ok (.if_icmp .ge 28, 3) := by decide +kernel
theorem dX10_read_98 : decode cX10_read 98 = .ok (.aload_n 0, 1) := by decide +kernel
theorem dX10_read_99 : decode cX10_read 99 = .ok (.getfield 7, 3) := by decide +kernel
theorem dX10_read_102 : decode cX10_read 102 = .ok (.bipush 101, 2) := by decide +kernel
theorem dX10_read_104 : decode cX10_read 104 = .ok (.iload_n 1, 1) := by decide +kernel
theorem dX10_read_105 : decode cX10_read 105 = .ok (.imul, 1) := by decide +kernel
theorem dX10_read_106 : decode cX10_read 106 = .ok (.iload 4, 2) := by decide +kernel
theorem dX10_read_108 : decode cX10_read 108 = .ok (.iadd, 1) := by decide +kernel
theorem dX10_read_109 : decode cX10_read 109 = .ok (.aload_n 0, 1) := by decide +kernel
theorem dX10_read_110 : decode cX10_read 110 = .ok (.getfield 63, 3) := by decide +kernel
theorem dX10_read_113 : decode cX10_read 113 = .ok (.iload 4, 2) := by decide +kernel
theorem dX10_read_115 : decode cX10_read 115 = .ok (.iaload, 1) := by decide +kernel
theorem dX10_read_116 : decode cX10_read 116 = .ok (.iastore, 1) := by decide +kernel
theorem dX10_read_117 : decode cX10_read 117 = .ok (.iinc 4 1, 3) := by decide +kernel
theorem dX10_read_120 : decode cX10_read 120 = .ok (.goto (-29), 3) := by decide +kernel
theorem dX10_read_123 : decode cX10_read 123 = .ok (.iload_n 3, 1) := by decide +kernel
theorem dX10_read_124 : decode cX10_read 124 = .ok (.ifCond .eq 6, 3) := by decide +kernel
theorem dX10_read_127 : decode cX10_read 127 = .ok (.bipush (-3), 2) := by decide +kernel
theorem dX10_read_129 : decode cX10_read 129 = .ok (.ireturn, 1) := by decide +kernel
theorem dX10_read_130 : decode cX10_read 130 = .ok (.aload_n 0, 1) := by decide +kernel
theorem dX10_read_131 : decode cX10_read 131 = .ok (.invokevirtual 177, 3) := by decide +kernel
theorem dX10_read_134 : decode cX10_read 134 = .ok (.aload_n 0, 1) := by decide +kernel
theorem dX10_read_135 : decode cX10_read 135 = .ok (.iload_n 1, 1) := by decide +kernel
theorem dX10_read_136 : decode cX10_read 136 = .ok (.aload_n 0, 1) := by decide +kernel
theorem dX10_read_137 : decode cX10_read 137 = .ok (.getfield 16, 3) := by decide +kernel
theorem dX10_read_140 : decode cX10_read 140 = .ok (.aload_n 0, 1) := by decide +kernel
theorem dX10_read_141 : decode cX10_read 141 = .ok (.getfield 114, 3) := by decide +kernel
theorem dX10_read_144 : decode cX10_read 144 = .ok (.invokevirtual 170, 3) := by decide +kernel
theorem dX10_read_147 : decode cX10_read 147 = .ok (.aload_n 0, 1) := by decide +kernel
theorem dX10_read_148 : decode cX10_read 148 = .ok (.iconst 0, 1) := by decide +kernel
theorem dX10_read_149 : decode cX10_read 149 = .ok (.putfield 114, 3) := by decide +kernel
theorem dX10_read_152 : decode cX10_read 152 = .ok (.aload_n 0, 1) := by decide +kernel
theorem dX10_read_153 : decode cX10_read 153 = .ok (.getfield 41, 3) := by decide +kernel
theorem dX10_read_156 : decode cX10_read 156 = .ok (.iload_n 1, 1) := by decide +kernel
theorem dX10_read_157 : decode cX10_read 157 = .ok (.iaload, 1) := by decide +kernel
theorem dX10_read_158 : decode cX10_read 158 = .ok (.ireturn, 1) := by decide +kernel
theorem dX10_copy_0 : decode cX10_copy 0 = .ok (.iload_n 1, 1) := by decide +kernel
theorem dX10_copy_1 : decode cX10_copy 1 = .ok (.invokestatic 163, 3) := by decide +kernel
theorem dX10_copy_4 : decode cX10_copy 4 = .ok (.ifCond .eq 10, 3) := by decide +kernel
theorem dX10_copy_7 : decode cX10_copy 7 = .ok (.iload_n 2, 1) := by decide +kernel
theorem dX10_copy_8 : decode cX10_copy 8 = .ok (.invokestatic 163, 3) := by decide +kernel
theorem dX10_copy_11 : decode cX10_copy 11 = .ok (.ifCond .ne 5, 3) := by decide +kernel
theorem dX10_copy_14 : decode cX10_copy 14 = .ok (.iconst (-1), 1) := by decide +kernel
theorem dX10_copy_15 : decode cX10_copy 15 = .ok (.ireturn, 1) := by decide +kernel
theorem dX10_copy_16 : decode cX10_copy 16 = .ok (.aload_n 0, 1) := by decide +kernel
theorem dX10_copy_17 : decode cX10_copy 17 = .ok (.invokevirtual 177, 3) := by decide +kernel
theorem dX10_copy_20 : decode cX10_copy 20 = .ok (.iconst 0, 1) := by decide +kernel
theorem dX10_copy_21 : decode cX10_copy 21 = .ok (.istore_n 3, 1) := by decide +kernel
theorem dX10_copy_22 : decode cX10_copy 22 = .ok (.iload_n 3, 1) := by decide +kernel
theorem dX10_copy_23 : decode cX10_copy 23 = .ok (.bipush 101, 2) := by decide +kernel
theorem dX10_copy_25 : decode cX10_copy 25 = .ok (.if_icmp .ge 31, 3) := by decide +kernel
theorem dX10_copy_28 : decode cX10_copy 28 = .ok (.aload_n 0, 1) := by decide +kernel
theorem dX10_copy_29 : decode cX10_copy 29 = .ok (.getfield 7, 3) := by decide +kernel
theorem dX10_copy_32 : decode cX10_copy 32 = .ok (.bipush 101, 2) := by decide +kernel
theorem dX10_copy_34 : decode cX10_copy 34 = .ok (.iload_n 2, 1) := by decide +kernel
theorem dX10_copy_35 : decode cX10_copy 35 = .ok (.imul, 1) := by decide +kernel
theorem dX10_copy_36 : decode cX10_copy 36 = .ok (.iload_n 3, 1) := by decide +kernel
theorem dX10_copy_37 : decode cX10_copy 37 = .ok (.iadd, 1) := by decide +kernel
theorem dX10_copy_38 : decode cX10_copy 38 = .ok (.aload_n 0, 1) := by decide +kernel
theorem dX10_copy_39 : decode cX10_copy 39 = .ok (.getfield 7, 3) := by decide +kernel
theorem dX10_copy_42 : decode cX10_copy 42 = .ok (.bipush 101, 2) := by decide +kernel
theorem dX10_copy_44 : decode cX10_copy 44 = .ok (.iload_n 1, 1) := by decide +kernel
theorem dX10_copy_45 : decode cX10_copy 45 = .ok (.imul, 1) := by decide +kernel
theorem dX10_copy_46 : decode cX10_copy 46 = .ok (.iload_n 3, 1) := by decide +kernel
theorem dX10_copy_47 : decode cX10_copy 47 = .ok (.iadd, 1) := by decide +kernel
theorem dX10_copy_48 : decode cX10_copy 48 = .ok (.iaload, 1) := by decide +kernel
theorem dX10_copy_49 : decode cX10_copy 49 = .ok (.iastore, 1) := by decide +kernel
theorem dX10_copy_50 : decode cX10_copy 50 = .ok (.iinc 3 1, 3) := by decide +kernel
theorem dX10_copy_53 : decode cX10_copy 53 = .ok (.goto (-31), 3) := by decide +kernel
theorem dX10_copy_56 : decode cX10_copy 56 = .ok (.aload_n 0, 1) := by decide +kernel
theorem dX10_copy_57 : decode cX10_copy 57 = .ok (.iload_n 2, 1) := by decide +kernel
theorem dX10_copy_58 : decode cX10_copy 58 = .ok (.invokevirtual 174, 3) := by decide +kernel
theorem dX10_copy_61 : decode cX10_copy 61 = .ok (.aload_n 0, 1) := by decide +kernel
theorem dX10_copy_62 : decode cX10_copy 62 = .ok (.getfield 41, 3) := by decide +kernel
theorem dX10_copy_65 : decode cX10_copy 65 = .ok (.iload_n 2, 1) := by decide +kernel
theorem dX10_copy_66 : decode cX10_copy 66 = .ok (.iaload, 1) := by decide +kernel
theorem dX10_copy_67 : decode cX10_copy 67 = .ok (.ireturn, 1) := by decide +kernel
theorem dX10_spread_0 : decode cX10_spread 0 = .ok (.iload_n 1, 1) := by decide +kernel
theorem dX10_spread_1 : decode cX10_spread 1 = .ok (.invokestatic 163, 3) := by decide +kernel
theorem dX10_spread_4 : decode cX10_spread 4 = .ok (.ifCond .eq 30, 3) := by decide +kernel
theorem dX10_spread_7 : decode cX10_spread 7 = .ok (.iload_n 3, 1) := by decide +kernel
theorem dX10_spread_8 : decode cX10_spread 8 = .ok (.iconst 1, 1) := by decide +kernel
theorem dX10_spread_9 : decode cX10_spread 9 = .ok (.bipush 32, 2) := by decide +kernel
theorem dX10_spread_11 : decode cX10_spread 11 = .ok (.invokestatic 76, 3) := by decide +kernel
theorem dX10_spread_14 : decode cX10_spread 14 = .ok (.ifCond .eq 20, 3) := by decide +kernel
theorem dX10_spread_17 : decode cX10_spread 17 = .ok (.iload_n 2, 1) := by decide +kernel
theorem dX10_spread_18 : decode cX10_spread 18 = .ok (.iconst 0, 1) := by decide +kernel
theorem dX10_spread_19 : decode cX10_spread 19 = .ok (.iload_n 3, 1) := by decide +kernel
theorem dX10_spread_20 : decode cX10_spread 20 = .ok (.invokestatic 76, 3) := by decide +kernel
theorem dX10_spread_23 : decode cX10_spread 23 = .ok (.ifCond .eq 11, 3) := by decide +kernel
theorem dX10_spread_26 : decode cX10_spread 26 = .ok (.iload 4, 2) := by decide +kernel
theorem dX10_spread_28 : decode cX10_spread 28 = .ok (.invokestatic 83, 3) := by decide +kernel
theorem dX10_spread_31 : decode cX10_spread 31 = .ok (.ifCond .ge 5, 3) := by decide +kernel
theorem dX10_spread_34 : decode cX10_spread 34 = .ok (.iconst (-1), 1) := by decide +kernel
theorem dX10_spread_35 : decode cX10_spread 35 = .ok (.ireturn, 1) := by decide +kernel
theorem dX10_spread_36 : decode cX10_spread 36 = .ok (.aload_n 0, 1) := by decide +kernel
theorem dX10_spread_37 : decode cX10_spread 37 = .ok (.invokevirtual 177, 3) := by decide +kernel
theorem dX10_spread_40 : decode cX10_spread 40 = .ok (.iconst 0, 1) := by decide +kernel
theorem dX10_spread_41 : decode cX10_spread 41 = .ok (.istore 5, 2) := by decide +kernel
theorem dX10_spread_43 : decode cX10_spread 43 = .ok (.iconst 0, 1) := by decide +kernel
theorem dX10_spread_44 : decode cX10_spread 44 = .ok (.istore 6, 2) := by decide +kernel
theorem dX10_spread_46 : decode cX10_spread 46 = .ok (.iload 6, 2) := by decide +kernel
theorem dX10_spread_48 : decode cX10_spread 48 = .ok (.iload_n 3, 1) := by decide +kernel
theorem dX10_spread_49 : decode cX10_spread 49 = .ok (.if_icmp .ge 43, 3) := by decide +kernel
theorem dX10_spread_52 : decode cX10_spread 52 = .ok (.iload 6, 2) := by decide +kernel
theorem dX10_spread_54 : decode cX10_spread 54 = .ok (.iload_n 2, 1) := by decide +kernel
theorem dX10_spread_55 : decode cX10_spread 55 = .ok (.imul, 1) := by decide +kernel
theorem dX10_spread_56 : decode cX10_spread 56 = .ok (.iload_n 3, 1) := by decide +kernel
theorem dX10_spread_57 : decode cX10_spread 57 = .ok (.irem, 1) := by decide +kernel
theorem dX10_spread_58 : decode cX10_spread 58 = .ok (.iload_n 2, 1) := by decide +kernel
theorem dX10_spread_59 : decode cX10_spread 59 = .ok (.if_icmp .lt 15, 3) := by decide +kernel
theorem dX10_spread_62 : decode cX10_spread 62 = .ok (.aload_n 0, 1) := by decide +kernel
theorem dX10_spread_63 : decode cX10_spread 63 = .ok (.getfield 66, 3) := by decide +kernel
theorem dX10_spread_66 : decode cX10_spread 66 = .ok (.iload 5, 2) := by decide +kernel
theorem dX10_spread_68 : decode cX10_spread 68 = .ok (.bipush 114, 2) := by decide +kernel
theorem dX10_spread_70 : decode cX10_spread 70 = .ok (.iastore, 1) := by decide +kernel
theorem dX10_spread_71 : decode cX10_spread 71 = .ok (.iinc 5 1, 3) := by decide +kernel
theorem dX10_spread_74 : decode cX10_spread 74 = .ok (.aload_n 0, 1) := by decide +kernel
theorem dX10_spread_75 : decode cX10_spread 75 = .ok (.getfield 66, 3) := by decide +kernel
theorem dX10_spread_78 : decode cX10_spread 78 = .ok (.iload 5, 2) := by decide +kernel
theorem dX10_spread_80 : decode cX10_spread 80 = .ok (.iload 4, 2) := by decide +kernel
theorem dX10_spread_82 : decode cX10_spread 82 = .ok (.iastore, 1) := by decide +kernel
theorem dX10_spread_83 : decode cX10_spread 83 = .ok (.iinc 5 1, 3) := by decide +kernel
theorem dX10_spread_86 : decode cX10_spread 86 = .ok (.iinc 6 1, 3) := by decide +kernel
theorem dX10_spread_89 : decode cX10_spread 89 = .ok (.goto (-43), 3) := by decide +kernel
theorem dX10_spread_92 : decode cX10_spread 92 = .ok (.aload_n 0, 1) := by decide +kernel
theorem dX10_spread_93 : decode cX10_spread 93 = .ok (.iload_n 1, 1) := by decide +kernel
theorem dX10_spread_94 : decode cX10_spread 94 = .ok (.aload_n 0, 1) := by decide +kernel
theorem dX10_spread_95 : decode cX10_spread 95 = .ok (.getfield 66, 3) := by decide +kernel
theorem dX10_spread_98 : decode cX10_spread 98 = .ok (.iload 5, 2) := by decide +kernel
theorem dX10_spread_100 : decode cX10_spread 100 = .ok (.invokevirtual 170, 3) := by decide +kernel
theorem dX10_spread_103 : decode cX10_spread 103 = .ok (.aload_n 0, 1) := by decide +kernel
theorem dX10_spread_104 : decode cX10_spread 104 = .ok (.iload_n 1, 1) := by decide +kernel
theorem dX10_spread_105 : decode cX10_spread 105 = .ok (.invokevirtual 174, 3) := by decide +kernel
theorem dX10_spread_108 : decode cX10_spread 108 = .ok (.aload_n 0, 1) := by decide +kernel
theorem dX10_spread_109 : decode cX10_spread 109 = .ok (.getfield 41, 3) := by decide +kernel
theorem dX10_spread_112 : decode cX10_spread 112 = .ok (.iload_n 1, 1) := by decide +kernel
theorem dX10_spread_113 : decode cX10_spread 113 = .ok (.iaload, 1) := by decide +kernel
theorem dX10_spread_114 : decode cX10_spread 114 = .ok (.ireturn, 1) := by decide +kernel
theorem dX10_textOf_0 : decode cX10_textOf 0 = .ok (.iload_n 1, 1) := by decide +kernel
theorem dX10_textOf_1 : decode cX10_textOf 1 = .ok (.invokestatic 163, 3) := by decide +kernel
theorem dX10_textOf_4 : decode cX10_textOf 4 = .ok (.ifCond .eq 7, 3) := by decide +kernel
theorem dX10_textOf_7 : decode cX10_textOf 7 = .ok (.iload_n 2, 1) := by decide +kernel
theorem dX10_textOf_8 : decode cX10_textOf 8 = .ok (.ifCond .ge 7, 3) := by decide +kernel
theorem dX10_textOf_11 : decode cX10_textOf 11 = .ok (.iconst (-1), 1) := by decide +kernel
theorem dX10_textOf_12 : decode cX10_textOf 12 = .ok (.goto 34, 3) := by decide +kernel
theorem dX10_textOf_15 : decode cX10_textOf 15 = .ok (.iload_n 2, 1) := by decide +kernel
theorem dX10_textOf_16 : decode cX10_textOf 16 = .ok (.aload_n 0, 1) := by decide +kernel
theorem dX10_textOf_17 : decode cX10_textOf 17 = .ok (.getfield 7, 3) := by decide +kernel
theorem dX10_textOf_20 : decode cX10_textOf 20 = .ok (.bipush 101, 2) := by decide +kernel
theorem dX10_textOf_22 : decode cX10_textOf 22 = .ok (.iload_n 1, 1) := by decide +kernel
theorem dX10_textOf_23 : decode cX10_textOf 23 = .ok (.imul, 1) := by decide +kernel
theorem dX10_textOf_24 : decode cX10_textOf 24 = .ok (.iaload, 1) := by decide +kernel
theorem dX10_textOf_25 : decode cX10_textOf 25 = .ok (.if_icmp .ge 19, 3) := by decide +kernel
theorem dX10_textOf_28 : decode cX10_textOf 28 = .ok (.aload_n 0, 1) := by decide +kernel
theorem dX10_textOf_29 : decode cX10_textOf 29 = .ok (.getfield 7, 3) := by decide +kernel
theorem dX10_textOf_32 : decode cX10_textOf 32 = .ok (.bipush 101, 2) := by decide +kernel
theorem dX10_textOf_34 : decode cX10_textOf 34 = .ok (.iload_n 1, 1) := by decide +kernel
theorem dX10_textOf_35 : decode cX10_textOf 35 = .ok (.imul, 1) := by decide +kernel
theorem dX10_textOf_36 : decode cX10_textOf 36 = .ok (.iconst 1, 1) := by decide +kernel
theorem dX10_textOf_37 : decode cX10_textOf 37 = .ok (.iadd, 1) := by decide +kernel
theorem dX10_textOf_38 : decode cX10_textOf 38 = .ok (.iload_n 2, 1) := by decide +kernel
theorem dX10_textOf_39 : decode cX10_textOf 39 = .ok (.iadd, 1) := by decide +kernel
theorem dX10_textOf_40 : decode cX10_textOf 40 = .ok (.iaload, 1) := by decide +kernel
theorem dX10_textOf_41 : decode cX10_textOf 41 = .ok (.goto 5, 3) := by decide +kernel
theorem dX10_textOf_44 : decode cX10_textOf 44 = .ok (.bipush (-9), 2) := by decide +kernel
theorem dX10_textOf_46 : decode cX10_textOf 46 = .ok (.ireturn, 1) := by decide +kernel
theorem dX10_unfolded_0 : decode cX10_unfolded 0 = .ok (.iload_n 1, 1) := by decide +kernel
theorem dX10_unfolded_1 : decode cX10_unfolded 1 = .ok (.invokestatic 163, 3) := by decide +kernel
theorem dX10_unfolded_4 : decode cX10_unfolded 4 = .ok (.ifCond .eq 7, 3) := by decide +kernel
theorem dX10_unfolded_7 : decode cX10_unfolded 7 = .ok (.iload_n 2, 1) := by decide +kernel
theorem dX10_unfolded_8 : decode cX10_unfolded 8 = .ok (.ifCond .ge 5, 3) := by decide +kernel
theorem dX10_unfolded_11 : decode cX10_unfolded 11 = .ok (.iconst (-1), 1) := by decide +kernel
theorem dX10_unfolded_12 : decode cX10_unfolded 12 = .ok (.ireturn, 1) := by decide +kernel
theorem dX10_unfolded_13 : decode cX10_unfolded 13 = .ok (.aload_n 0, 1) := by decide +kernel
theorem dX10_unfolded_14 : decode cX10_unfolded 14 = .ok (.iload_n 1, 1) := by decide +kernel
theorem dX10_unfolded_15 : decode cX10_unfolded 15 = .ok (.invokevirtual 148, 3) := by decide +kernel
theorem dX10_unfolded_18 : decode cX10_unfolded 18 = .ok (.iload_n 2, 1) := by decide +kernel
theorem dX10_unfolded_19 : decode cX10_unfolded 19 = .ok (.aload_n 0, 1) := by decide +kernel
theorem dX10_unfolded_20 : decode cX10_unfolded 20 = .ok (.getfield 124, 3) := by decide +kernel
theorem dX10_unfolded_23 : decode cX10_unfolded 23 = .ok (.if_icmp .ge 12, 3) := by decide +kernel
theorem dX10_unfolded_26 : decode cX10_unfolded 26 = .ok (.aload_n 0, 1) := by decide +kernel
theorem dX10_unfolded_27 : decode cX10_unfolded 27 = .ok (.getfield 22, 3) := by decide +kernel
theorem dX10_unfolded_30 : decode cX10_unfolded 30 = .ok (.iload_n 2, 1) := by decide +kernel
theorem dX10_unfolded_31 : decode cX10_unfolded 31 = .ok (.iaload, 1) := by decide +kernel
theorem dX10_unfolded_32 : decode cX10_unfolded 32 = .ok (.goto 5, 3) := by decide +kernel
theorem dX10_unfolded_35 : decode cX10_unfolded 35 = .ok (.bipush (-9), 2) := by decide +kernel
theorem dX10_unfolded_37 : decode cX10_unfolded 37 = .ok (.ireturn, 1) := by decide +kernel
theorem dX10_setMeter_0 : decode cX10_setMeter 0 = .ok (.iload_n 2, 1) := by decide +kernel
theorem dX10_setMeter_1 : decode cX10_setMeter 1 = .ok (.iconst 1, 1) := by decide +kernel
theorem dX10_setMeter_2 : decode cX10_setMeter 2 = .ok (.if_icmp .eq 25, 3) := by decide +kernel
theorem dX10_setMeter_5 : decode cX10_setMeter 5 = .ok (.iload_n 2, 1) := by decide +kernel
theorem dX10_setMeter_6 : decode cX10_setMeter 6 = .ok (.iconst 2, 1) := by decide +kernel
theorem dX10_setMeter_7 : decode cX10_setMeter 7 = .ok (.if_icmp .eq 20, 3) := by decide +kernel
theorem dX10_setMeter_10 : decode cX10_setMeter 10 = .ok (.iload_n 2, 1) := by decide +kernel
theorem dX10_setMeter_11 : decode cX10_setMeter 11 = .ok (.iconst 4, 1) := by decide +kernel
theorem dX10_setMeter_12 : decode cX10_setMeter 12 = .ok (.if_icmp .eq 15, 3) := by decide +kernel
theorem dX10_setMeter_15 : decode cX10_setMeter 15 = .ok (.iload_n 2, 1) := by decide +kernel
theorem dX10_setMeter_16 : decode cX10_setMeter 16 = .ok (.bipush 8, 2) := by decide +kernel
theorem dX10_setMeter_18 : decode cX10_setMeter 18 = .ok (.if_icmp .eq 9, 3) := by decide +kernel
theorem dX10_setMeter_21 : decode cX10_setMeter 21 = .ok (.iload_n 2, 1) := by decide +kernel
theorem dX10_setMeter_22 : decode cX10_setMeter 22 = .ok (.bipush 16, 2) := by decide +kernel
theorem dX10_setMeter_24 : decode cX10_setMeter 24 = .ok (.if_icmp .ne 7, 3) := by decide +kernel
theorem dX10_setMeter_27 : decode cX10_setMeter 27 = .ok (.iconst 1, 1) := by decide +kernel
theorem dX10_setMeter_28 : decode cX10_setMeter 28 = .ok (.goto 4, 3) := by decide +kernel
theorem dX10_setMeter_31 : decode cX10_setMeter 31 = .ok (.iconst 0, 1) := by decide +kernel
theorem dX10_setMeter_32 : decode cX10_setMeter 32 = .ok (.istore_n 3, 1) := by decide +kernel
theorem dX10_setMeter_33 : decode cX10_setMeter 33 = .ok (.iload_n 1, 1) := by decide +kernel
theorem dX10_setMeter_34 : decode cX10_setMeter 34 = .ok (.iconst 1, 1) := by decide +kernel
theorem dX10_setMeter_35 : decode cX10_setMeter 35 = .ok (.bipush 16, 2) := by decide +kernel
theorem dX10_setMeter_37 : decode cX10_setMeter 37 = .ok (.invokestatic 76, 3) := by decide +kernel
theorem dX10_setMeter_40 : decode cX10_setMeter 40 = .ok (.ifCond .eq 7, 3) := by decide +kernel
theorem dX10_setMeter_43 : decode cX10_setMeter 43 = .ok (.iload_n 3, 1) := by decide +kernel
theorem dX10_setMeter_44 : decode cX10_setMeter 44 = .ok (.ifCond .ne 5, 3) := by decide +kernel
theorem dX10_setMeter_47 : decode cX10_setMeter 47 = .ok (.iconst (-1), 1) := by decide +kernel
theorem dX10_setMeter_48 : decode cX10_setMeter 48 = .ok (.ireturn, 1) := by decide +kernel
theorem dX10_setMeter_49 : decode cX10_setMeter 49 = .ok (.aload_n 0, 1) := by decide +kernel
theorem dX10_setMeter_50 : decode cX10_setMeter 50 = .ok (.invokevirtual 177, 3) := by decide +kernel
theorem dX10_setMeter_53 : decode cX10_setMeter 53 = .ok (.bipush 100, 2) := by decide +kernel
theorem dX10_setMeter_55 : decode cX10_setMeter 55 = .ok (.aload_n 0, 1) := by decide +kernel
theorem dX10_setMeter_56 : decode cX10_setMeter 56 = .ok (.getfield 7, 3) := by decide +kernel
theorem dX10_setMeter_59 : decode cX10_setMeter 59 = .ok (.sipush 404, 3) := by decide +kernel
theorem dX10_setMeter_62 : decode cX10_setMeter 62 = .ok (.iaload, 1) := by decide +kernel
theorem dX10_setMeter_63 : decode cX10_setMeter 63 = .ok (.imul, 1) := by decide +kernel
theorem dX10_setMeter_64 : decode cX10_setMeter 64 = .ok (.aload_n 0, 1) := by decide +kernel
theorem dX10_setMeter_65 : decode cX10_setMeter 65 = .ok (.getfield 7, 3) := by decide +kernel
theorem dX10_setMeter_68 : decode cX10_setMeter 68 = .ok (.sipush 405, 3) := by decide +kernel
theorem dX10_setMeter_71 : decode cX10_setMeter 71 = .ok (.iaload, 1) := by decide +kernel
theorem dX10_setMeter_72 : decode cX10_setMeter 72 = .ok (.iadd, 1) := by decide +kernel
theorem dX10_setMeter_73 : decode cX10_setMeter 73 = .ok (.istore 4, 2) := by decide +kernel
theorem dX10_setMeter_75 : decode cX10_setMeter 75 = .ok (.aload_n 0, 1) := by decide +kernel
theorem dX10_setMeter_76 : decode cX10_setMeter 76 = .ok (.getfield 7, 3) := by decide +kernel
theorem dX10_setMeter_79 : decode cX10_setMeter 79 = .ok (.sipush 404, 3) := by decide +kernel
theorem dX10_setMeter_82 : decode cX10_setMeter 82 = .ok (.iload_n 1, 1) := by decide +kernel
theorem dX10_setMeter_83 : decode cX10_setMeter 83 = .ok (.iastore, 1) := by decide +kernel
theorem dX10_setMeter_84 : decode cX10_setMeter 84 = .ok (.aload_n 0, 1) := by decide +kernel
theorem dX10_setMeter_85 : decode cX10_setMeter 85 = .ok (.getfield 7, 3) := by decide +kernel
theorem dX10_setMeter_88 : decode cX10_setMeter 88 = .ok (.sipush 405, 3) := by decide +kernel
theorem dX10_setMeter_91 : decode cX10_setMeter 91 = .ok (.iload_n 2, 1) := by decide +kernel
theorem dX10_setMeter_92 : decode cX10_setMeter 92 = .ok (.iastore, 1) := by decide +kernel
theorem dX10_setMeter_93 : decode cX10_setMeter 93 = .ok (.iload 4, 2) := by decide +kernel
theorem dX10_setMeter_95 : decode cX10_setMeter 95 = .ok (.ireturn, 1) := by decide +kernel
theorem dX10_setSwing_0 : decode cX10_setSwing 0 = .ok (.iload_n 1, 1) := by decide +kernel
theorem dX10_setSwing_1 : decode cX10_setSwing 1 = .ok (.iconst 1, 1) := by decide +kernel
theorem dX10_setSwing_2 : decode cX10_setSwing 2 = .ok (.bipush 9, 2) := by decide +kernel
theorem dX10_setSwing_4 : decode cX10_setSwing 4 = .ok (.invokestatic 76, 3) := by decide +kernel
theorem dX10_setSwing_7 : decode cX10_setSwing 7 = .ok (.ifCond .eq 13, 3) := by decide +kernel
theorem dX10_setSwing_10 : decode cX10_setSwing 10 = .ok (.iload_n 2, 1) := by decide +kernel
theorem dX10_setSwing_11 : decode cX10_setSwing 11 = .ok (.iconst 1, 1) := by decide +kernel
theorem dX10_setSwing_12 : decode cX10_setSwing 12 = .ok (.bipush 9, 2) := by decide +kernel
theorem dX10_setSwing_14 : decode cX10_setSwing 14 = .ok (.invokestatic 76, 3) := by decide +kernel
theorem dX10_setSwing_17 : decode cX10_setSwing 17 = .ok (.ifCond .ne 5, 3) := by decide +kernel
theorem dX10_setSwing_20 : decode cX10_setSwing 20 = .ok (.iconst (-1), 1) := by decide +kernel
theorem dX10_setSwing_21 : decode cX10_setSwing 21 = .ok (.ireturn, 1) := by decide +kernel
theorem dX10_setSwing_22 : decode cX10_setSwing 22 = .ok (.aload_n 0, 1) := by decide +kernel
theorem dX10_setSwing_23 : decode cX10_setSwing 23 = .ok (.invokevirtual 177, 3) := by decide +kernel
theorem dX10_setSwing_26 : decode cX10_setSwing 26 = .ok (.bipush 10, 2) := by decide +kernel
theorem dX10_setSwing_28 : decode cX10_setSwing 28 = .ok (.aload_n 0, 1) := by decide +kernel
theorem dX10_setSwing_29 : decode cX10_setSwing 29 = .ok (.getfield 7, 3) := by decide +kernel
theorem dX10_setSwing_32 : decode cX10_setSwing 32 = .ok (.sipush 406, 3) := by decide +kernel
theorem dX10_setSwing_35 : decode cX10_setSwing 35 = .ok (.iaload, 1) := by decide +kernel
theorem dX10_setSwing_36 : decode cX10_setSwing 36 = .ok (.imul, 1) := by decide +kernel
theorem dX10_setSwing_37 : decode cX10_setSwing 37 = .ok (.aload_n 0, 1) := by decide +kernel
theorem dX10_setSwing_38 : decode cX10_setSwing 38 = .ok (.getfield 7, 3) := by decide +kernel
theorem dX10_setSwing_41 : decode cX10_setSwing 41 = .ok (.sipush 407, 3) := by decide +kernel
theorem dX10_setSwing_44 : decode cX10_setSwing 44 = .ok (.iaload, 1) := by decide +kernel
theorem dX10_setSwing_45 : decode cX10_setSwing 45 = .ok (.iadd, 1) := by decide +kernel
theorem dX10_setSwing_46 : decode cX10_setSwing 46 = .ok (.istore_n 3, 1) := by decide +kernel
theorem dX10_setSwing_47 : decode cX10_setSwing 47 = .ok (.aload_n 0, 1) := by decide +kernel
theorem dX10_setSwing_48 : decode cX10_setSwing 48 = .ok (.getfield 7, 3) := by decide +kernel
theorem dX10_setSwing_51 : decode cX10_setSwing 51 = .ok (.sipush 406, 3) := by decide +kernel
theorem dX10_setSwing_54 : decode cX10_setSwing 54 = .ok (.iload_n 1, 1) := by decide +kernel
theorem dX10_setSwing_55 : decode cX10_setSwing 55 = .ok (.iastore, 1) := by decide +kernel
theorem dX10_setSwing_56 : decode cX10_setSwing 56 = .ok (.aload_n 0, 1) := by decide +kernel
theorem dX10_setSwing_57 : decode cX10_setSwing 57 = .ok (.getfield 7, 3) := by decide +kernel
theorem dX10_setSwing_60 : decode cX10_setSwing 60 = .ok (.sipush 407, 3) := by decide +kernel
theorem dX10_setSwing_63 : decode cX10_setSwing 63 = .ok (.iload_n 2, 1) := by decide +kernel
theorem dX10_setSwing_64 : decode cX10_setSwing 64 = .ok (.iastore, 1) := by decide +kernel
theorem dX10_setSwing_65 : decode cX10_setSwing 65 = .ok (.iload_n 3, 1) := by decide +kernel
theorem dX10_setSwing_66 : decode cX10_setSwing 66 = .ok (.ireturn, 1) := by decide +kernel
theorem dX10_divisor_0 : decode cX10_divisor 0 = .ok (.lload_n 0, 1) := by decide +kernel
theorem dX10_divisor_1 : decode cX10_divisor 1 = .ok (.lstore 4, 2) := by decide +kernel
theorem dX10_divisor_3 : decode cX10_divisor 3 = .ok (.lload_n 2, 1) := by decide +kernel
theorem dX10_divisor_4 : decode cX10_divisor 4 = .ok (.lstore 6, 2) := by decide +kernel
theorem dX10_divisor_6 : decode cX10_divisor 6 = .ok (.lload 6, 2) := by decide +kernel
theorem dX10_divisor_8 : decode cX10_divisor 8 = .ok (.lconst 0, 1) := by decide +kernel
theorem dX10_divisor_9 : decode cX10_divisor 9 = .ok (.lcmp, 1) := by decide +kernel
theorem dX10_divisor_10 : decode cX10_divisor 10 = .ok (.ifCond .eq 21, 3) := by decide +kernel
theorem dX10_divisor_13 : decode cX10_divisor 13 = .ok (.lload 4, 2) := by decide +kernel
theorem dX10_divisor_15 : decode cX10_divisor 15 = .ok (.lload 6, 2) := by decide +kernel
theorem dX10_divisor_17 : decode cX10_divisor 17 = .ok (.lrem, 1) := by decide +kernel
theorem dX10_divisor_18 : decode cX10_divisor 18 = .ok (.lstore 8, 2) := by decide +kernel
theorem dX10_divisor_20 : decode cX10_divisor 20 = .ok (.lload 6, 2) := by decide +kernel
theorem dX10_divisor_22 : decode cX10_divisor 22 = .ok (.lstore 4, 2) := by decide +kernel
theorem dX10_divisor_24 : decode cX10_divisor 24 = .ok (.lload 8, 2) := by decide +kernel
theorem dX10_divisor_26 : decode cX10_divisor 26 = .ok (.lstore 6, 2) := by decide +kernel
theorem dX10_divisor_28 : decode cX10_divisor 28 = .ok (.goto (-22), 3) := by decide +kernel
theorem dX10_divisor_31 : decode cX10_divisor 31 = .ok (.lload 4, 2) := by decide +kernel
theorem dX10_divisor_33 : decode cX10_divisor 33 = .ok (.lreturn, 1) := by decide +kernel
theorem dX10_told_0 : decode cX10_told 0 = .ok (.lload_n 0, 1) := by decide +kernel
theorem dX10_told_1 : decode cX10_told 1 = .ok (.lload_n 2, 1) := by decide +kernel
theorem dX10_told_2 : decode cX10_told 2 = .ok (.invokestatic 180, 3) := by decide +kernel
theorem dX10_told_5 : decode cX10_told 5 = .ok (.lstore 5, 2) := by decide +kernel
theorem dX10_told_7 : decode cX10_told 7 = .ok (.iload 4, 2) := by decide +kernel
theorem dX10_told_9 : decode cX10_told 9 = .ok (.ifCond .ne 10, 3) := by decide +kernel
theorem dX10_told_12 : decode cX10_told 12 = .ok (.lload_n 0, 1) := by decide +kernel
theorem dX10_told_13 : decode cX10_told 13 = .ok (.lload 5, 2) := by decide +kernel
theorem dX10_told_15 : decode cX10_told 15 = .ok (.ldiv, 1) := by decide +kernel
theorem dX10_told_16 : decode cX10_told 16 = .ok (.goto 7, 3) := by decide +kernel
theorem dX10_told_19 : decode cX10_told 19 = .ok (.lload_n 2, 1) := by decide +kernel
theorem dX10_told_20 : decode cX10_told 20 = .ok (.lload 5, 2) := by decide +kernel
theorem dX10_told_22 : decode cX10_told 22 = .ok (.ldiv, 1) := by decide +kernel
theorem dX10_told_23 : decode cX10_told 23 = .ok (.lreturn, 1) := by decide +kernel
theorem dX10_events_0 : decode cX10_events 0 = .ok (.iload_n 1, 1) := by decide +kernel
theorem dX10_events_1 : decode cX10_events 1 = .ok (.invokestatic 163, 3) := by decide +kernel
theorem dX10_events_4 : decode cX10_events 4 = .ok (.ifCond .ne 5, 3) := by decide +kernel
theorem dX10_events_7 : decode cX10_events 7 = .ok (.iconst (-1), 1) := by decide +kernel
theorem dX10_events_8 : decode cX10_events 8 = .ok (.ireturn, 1) := by decide +kernel
theorem dX10_events_9 : decode cX10_events 9 = .ok (.aload_n 0, 1) := by decide +kernel
theorem dX10_events_10 : decode cX10_events 10 = .ok (.iload_n 1, 1) := by decide +kernel
theorem dX10_events_11 : decode cX10_events 11 = .ok (.invokevirtual 174, 3) := by decide +kernel
theorem dX10_events_14 : decode cX10_events 14 = .ok (.aload_n 0, 1) := by decide +kernel
theorem dX10_events_15 : decode cX10_events 15 = .ok (.getfield 41, 3) := by decide +kernel
theorem dX10_events_18 : decode cX10_events 18 = .ok (.iload_n 1, 1) := by decide +kernel
theorem dX10_events_19 : decode cX10_events 19 = .ok (.iaload, 1) := by decide +kernel
theorem dX10_events_20 : decode cX10_events 20 = .ok (.ireturn, 1) := by decide +kernel
theorem dX10_length_0 : decode cX10_length 0 = .ok (.iload_n 1, 1) := by decide +kernel
theorem dX10_length_1 : decode cX10_length 1 = .ok (.invokestatic 163, 3) := by decide +kernel
theorem dX10_length_4 : decode cX10_length 4 = .ok (.ifCond .eq 12, 3) := by decide +kernel
theorem dX10_length_7 : decode cX10_length 7 = .ok (.iload_n 2, 1) := by decide +kernel
theorem dX10_length_8 : decode cX10_length 8 = .ok (.iconst 0, 1) := by decide +kernel
theorem dX10_length_9 : decode cX10_length 9 = .ok (.iconst 1, 1) := by decide +kernel
theorem dX10_length_10 : decode cX10_length 10 = .ok (.invokestatic 76, 3) := by decide +kernel
theorem dX10_length_13 : decode cX10_length 13 = .ok (.ifCond .ne 7, 3) := by decide +kernel
theorem dX10_length_16 : decode cX10_length 16 = .ok (.ldc2_w 184, 3) := by decide +kernel
theorem dX10_length_19 : decode cX10_length 19 = .ok (.lreturn, 1) := by decide +kernel
theorem dX10_length_20 : decode cX10_length 20 = .ok (.aload_n 0, 1) := by decide +kernel
theorem dX10_length_21 : decode cX10_length 21 = .ok (.iload_n 1, 1) := by decide +kernel
theorem dX10_length_22 : decode cX10_length 22 = .ok (.invokevirtual 174, 3) := by decide +kernel
theorem dX10_length_25 : decode cX10_length 25 = .ok (.aload_n 0, 1) := by decide +kernel
theorem dX10_length_26 : decode cX10_length 26 = .ok (.getfield 44, 3) := by decide +kernel
theorem dX10_length_29 : decode cX10_length 29 = .ok (.iload_n 1, 1) := by decide +kernel
theorem dX10_length_30 : decode cX10_length 30 = .ok (.laload, 1) := by decide +kernel
theorem dX10_length_31 : decode cX10_length 31 = .ok (.ldc2_w 138, 3) := by decide +kernel
theorem dX10_length_34 : decode cX10_length 34 = .ok (.iload_n 2, 1) := by decide +kernel
theorem dX10_length_35 : decode cX10_length 35 = .ok (.invokestatic 186, 3) := by decide +kernel
theorem dX10_length_38 : decode cX10_length 38 = .ok (.lreturn, 1) := by decide +kernel
theorem dX10_isEvent_0 : decode cX10_isEvent 0 = .ok (.iload_n 1, 1) := by decide +kernel
theorem dX10_isEvent_1 : decode cX10_isEvent 1 = .ok (.invokestatic 163, 3) := by decide +kernel
theorem dX10_isEvent_4 : decode cX10_isEvent 4 = .ok (.ifCond .ne 5, 3) := by decide +kernel
theorem dX10_isEvent_7 : decode cX10_isEvent 7 = .ok (.iconst 0, 1) := by decide +kernel
theorem dX10_isEvent_8 : decode cX10_isEvent 8 = .ok (.ireturn, 1) := by decide +kernel
theorem dX10_isEvent_9 : decode cX10_isEvent 9 = .ok (.aload_n 0, 1) := by decide +kernel
theorem dX10_isEvent_10 : decode cX10_isEvent 10 = .ok (.iload_n 1, 1) := by decide +kernel
theorem dX10_isEvent_11 : decode cX10_isEvent 11 = .ok (.invokevirtual 174, 3) := by decide +kernel
theorem dX10_isEvent_14 : decode cX10_isEvent 14 = .ok (.iload_n 2, 1) := by decide +kernel
theorem dX10_isEvent_15 : decode cX10_isEvent 15 = .ok (.iconst 0, 1) := by decide +kernel
theorem dX10_isEvent_16 : decode cX10_isEvent 16 = .ok (.aload_n 0, 1) := by decide +kernel
theorem dX10_isEvent_17 : decode cX10_isEvent 17 = .ok (.getfield 41, 3) := by decide +kernel
theorem dX10_isEvent_20 : decode cX10_isEvent 20 = .ok (.iload_n 1, 1) := by decide +kernel
theorem dX10_isEvent_21 : decode cX10_isEvent 21 = .ok (.iaload, 1) := by decide +kernel
theorem dX10_isEvent_22 : decode cX10_isEvent 22 = .ok (.iconst 1, 1) := by decide +kernel
theorem dX10_isEvent_23 : decode cX10_isEvent 23 = .ok (.isub, 1) := by decide +kernel
theorem dX10_isEvent_24 : decode cX10_isEvent 24 = .ok (.invokestatic 76, 3) := by decide +kernel
theorem dX10_isEvent_27 : decode cX10_isEvent 27 = .ok (.ireturn, 1) := by decide +kernel
theorem dX10_onset_0 : decode cX10_onset 0 = .ok (.iload_n 3, 1) := by decide +kernel
theorem dX10_onset_1 : decode cX10_onset 1 = .ok (.iconst 0, 1) := by decide +kernel
theorem dX10_onset_2 : decode cX10_onset 2 = .ok (.iconst 1, 1) := by decide +kernel
theorem dX10_onset_3 : decode cX10_onset 3 = .ok (.invokestatic 76, 3) := by decide +kernel
theorem dX10_onset_6 : decode cX10_onset 6 = .ok (.ifCond .eq 34, 3) := by decide +kernel
theorem dX10_onset_9 : decode cX10_onset 9 = .ok (.aload_n 0, 1) := by decide +kernel
theorem dX10_onset_10 : decode cX10_onset 10 = .ok (.iload_n 1, 1) := by decide +kernel
theorem dX10_onset_11 : decode cX10_onset 11 = .ok (.iload_n 2, 1) := by decide +kernel
theorem dX10_onset_12 : decode cX10_onset 12 = .ok (.invokevirtual 190, 3) := by decide +kernel
theorem dX10_onset_15 : decode cX10_onset 15 = .ok (.ifCond .eq 25, 3) := by decide +kernel
theorem dX10_onset_18 : decode cX10_onset 18 = .ok (.aload_n 0, 1) := by decide +kernel
theorem dX10_onset_19 : decode cX10_onset 19 = .ok (.getfield 25, 3) := by decide +kernel
theorem dX10_onset_22 : decode cX10_onset 22 = .ok (.sipush 300, 3) := by decide +kernel
theorem dX10_onset_25 : decode cX10_onset 25 = .ok (.iload_n 1, 1) := by decide +kernel
theorem dX10_onset_26 : decode cX10_onset 26 = .ok (.imul, 1) := by decide +kernel
theorem dX10_onset_27 : decode cX10_onset 27 = .ok (.iload_n 2, 1) := by decide +kernel
theorem dX10_onset_28 : decode cX10_onset 28 = .ok (.iadd, 1) := by decide +kernel
theorem dX10_onset_29 : decode cX10_onset 29 = .ok (.laload, 1) := by decide +kernel
theorem dX10_onset_30 : decode cX10_onset 30 = .ok (.ldc2_w 138, 3) := by decide +kernel
theorem dX10_onset_33 : decode cX10_onset 33 = .ok (.iload_n 3, 1) := by decide +kernel
theorem dX10_onset_34 : decode cX10_onset 34 = .ok (.invokestatic 186, 3) := by decide +kernel
theorem dX10_onset_37 : decode cX10_onset 37 = .ok (.goto 6, 3) := by decide +kernel
theorem dX10_onset_40 : decode cX10_onset 40 = .ok (.ldc2_w 184, 3) := by decide +kernel
theorem dX10_onset_43 : decode cX10_onset 43 = .ok (.lreturn, 1) := by decide +kernel
theorem dX10_lasts_0 : decode cX10_lasts 0 = .ok (.iload_n 3, 1) := by decide +kernel
theorem dX10_lasts_1 : decode cX10_lasts 1 = .ok (.iconst 0, 1) := by decide +kernel
theorem dX10_lasts_2 : decode cX10_lasts 2 = .ok (.iconst 1, 1) := by decide +kernel
theorem dX10_lasts_3 : decode cX10_lasts 3 = .ok (.invokestatic 76, 3) := by decide +kernel
theorem dX10_lasts_6 : decode cX10_lasts 6 = .ok (.ifCond .eq 34, 3) := by decide +kernel
theorem dX10_lasts_9 : decode cX10_lasts 9 = .ok (.aload_n 0, 1) := by decide +kernel
theorem dX10_lasts_10 : decode cX10_lasts 10 = .ok (.iload_n 1, 1) := by decide +kernel
theorem dX10_lasts_11 : decode cX10_lasts 11 = .ok (.iload_n 2, 1) := by decide +kernel
theorem dX10_lasts_12 : decode cX10_lasts 12 = .ok (.invokevirtual 190, 3) := by decide +kernel
theorem dX10_lasts_15 : decode cX10_lasts 15 = .ok (.ifCond .eq 25, 3) := by decide +kernel
theorem dX10_lasts_18 : decode cX10_lasts 18 = .ok (.aload_n 0, 1) := by decide +kernel
theorem dX10_lasts_19 : decode cX10_lasts 19 = .ok (.getfield 29, 3) := by decide +kernel
theorem dX10_lasts_22 : decode cX10_lasts 22 = .ok (.sipush 300, 3) := by decide +kernel
theorem dX10_lasts_25 : decode cX10_lasts 25 = .ok (.iload_n 1, 1) := by decide +kernel
theorem dX10_lasts_26 : decode cX10_lasts 26 = .ok (.imul, 1) := by decide +kernel
theorem dX10_lasts_27 : decode cX10_lasts 27 = .ok (.iload_n 2, 1) := by decide +kernel
theorem dX10_lasts_28 : decode cX10_lasts 28 = .ok (.iadd, 1) := by decide +kernel
theorem dX10_lasts_29 : decode cX10_lasts 29 = .ok (.laload, 1) := by decide +kernel
theorem dX10_lasts_30 : decode cX10_lasts 30 = .ok (.ldc2_w 138, 3) := by decide +kernel
theorem dX10_lasts_33 : decode cX10_lasts 33 = .ok (.iload_n 3, 1) := by decide +kernel
theorem dX10_lasts_34 : decode cX10_lasts 34 = .ok (.invokestatic 186, 3) := by decide +kernel
theorem dX10_lasts_37 : decode cX10_lasts 37 = .ok (.goto 6, 3) := by decide +kernel
theorem dX10_lasts_40 : decode cX10_lasts 40 = .ok (.ldc2_w 184, 3) := by decide +kernel
theorem dX10_lasts_43 : decode cX10_lasts 43 = .ok (.lreturn, 1) := by decide +kernel
theorem dX10_swungOf_0 : decode cX10_swungOf 0 = .ok (.lload_n 1, 1) := by decide +kernel
theorem dX10_swungOf_1 : decode cX10_swungOf 1 = .ok (.ldc2_w 193, 3) := by decide +kernel
theorem dX10_swungOf_4 : decode cX10_swungOf 4 = .ok (.lrem, 1) := by decide +kernel
theorem dX10_swungOf_5 : decode cX10_swungOf 5 = .ok (.lstore_n 3, 1) := by decide +kernel
theorem dX10_swungOf_6 : decode cX10_swungOf 6 = .ok (.lload_n 1, 1) := by decide +kernel
theorem dX10_swungOf_7 : decode cX10_swungOf 7 = .ok (.lload_n 3, 1) := by decide +kernel
theorem dX10_swungOf_8 : decode cX10_swungOf 8 = .ok (.lsub, 1) := by decide +kernel
theorem dX10_swungOf_9 : decode cX10_swungOf 9 = .ok (.lstore 5, 2) := by decide +kernel
theorem dX10_swungOf_11 : decode cX10_swungOf 11 = .ok (.aload_n 0, 1) := by decide +kernel
theorem dX10_swungOf_12 : decode cX10_swungOf 12 = .ok (.getfield 7, 3) := by decide +kernel
theorem dX10_swungOf_15 : decode cX10_swungOf 15 = .ok (.sipush 406, 3) := by decide +kernel
theorem dX10_swungOf_18 : decode cX10_swungOf 18 = .ok (.iaload, 1) := by decide +kernel
theorem dX10_swungOf_19 : decode cX10_swungOf 19 = .ok (.aload_n 0, 1) := by decide +kernel
theorem dX10_swungOf_20 : decode cX10_swungOf 20 = .ok (.getfield 7, 3) := by decide +kernel
theorem dX10_swungOf_23 : decode cX10_swungOf 23 = .ok (.sipush 407, 3) := by decide +kernel
theorem dX10_swungOf_26 : decode cX10_swungOf 26 = .ok (.iaload, 1) := by decide +kernel
theorem dX10_swungOf_27 : decode cX10_swungOf 27 = .ok (.iadd, 1) := by decide +kernel
theorem dX10_swungOf_28 : decode cX10_swungOf 28 = .ok (.i2l, 1) := by decide +kernel
theorem dX10_swungOf_29 : decode cX10_swungOf 29 = .ok (.lstore 7, 2) := by decide +kernel
theorem dX10_swungOf_31 : decode cX10_swungOf 31 = .ok (.lload_n 3, 1) := by decide +kernel
theorem dX10_swungOf_32 : decode cX10_swungOf 32 = .ok (.ldc2_w 195, 3) := by decide +kernel
theorem dX10_swungOf_35 : decode cX10_swungOf 35 = .ok (.lcmp, 1) := by decide +kernel
theorem dX10_swungOf_36 : decode cX10_swungOf 36 = .ok (.ifCond .ge 25, 3) := by decide +kernel
theorem dX10_swungOf_39 : decode cX10_swungOf 39 = .ok (.lload 5, 2) := by decide +kernel
theorem dX10_swungOf_41 : decode cX10_swungOf 41 = .ok (.lload 7, 2) := by decide +kernel
theorem dX10_swungOf_43 : decode cX10_swungOf 43 = .ok (.lmul, 1) := by decide +kernel
theorem dX10_swungOf_44 : decode cX10_swungOf 44 = .ok (.lload_n 3, 1) := by decide +kernel
theorem dX10_swungOf_45 : decode cX10_swungOf 45 = .ok (.ldc2_w 142, 3) := by decide +kernel
theorem dX10_swungOf_48 : decode cX10_swungOf 48 = .ok (.lmul, 1) := by decide +kernel
theorem dX10_swungOf_49 : decode cX10_swungOf 49 = .ok (.aload_n 0, 1) := by decide +kernel
theorem dX10_swungOf_50 : decode cX10_swungOf 50 = .ok (.getfield 7, 3) := by decide +kernel
theorem dX10_swungOf_53 : decode cX10_swungOf 53 = .ok (.sipush 406, 3) := by decide +kernel
theorem dX10_swungOf_56 : decode cX10_swungOf 56 = .ok (.iaload, 1) := by decide +kernel
theorem dX10_swungOf_57 : decode cX10_swungOf 57 = .ok (.i2l, 1) := by decide +kernel
theorem dX10_swungOf_58 : decode cX10_swungOf 58 = .ok (.lmul, 1) := by decide +kernel
theorem dX10_swungOf_59 : decode cX10_swungOf 59 = .ok (.ladd, 1) := by decide +kernel
theorem dX10_swungOf_60 : decode cX10_swungOf 60 = .ok (.lreturn, 1) := by decide +kernel
theorem dX10_swungOf_61 : decode cX10_swungOf 61 = .ok (.lload 5, 2) := by decide +kernel
theorem dX10_swungOf_63 : decode cX10_swungOf 63 = .ok (.lload 7, 2) := by decide +kernel
theorem dX10_swungOf_65 : decode cX10_swungOf 65 = .ok (.lmul, 1) := by decide +kernel
theorem dX10_swungOf_66 : decode cX10_swungOf 66 = .ok (.ldc2_w 193, 3) := by decide +kernel
theorem dX10_swungOf_69 : decode cX10_swungOf 69 = .ok (.aload_n 0, 1) := by decide +kernel
theorem dX10_swungOf_70 : decode cX10_swungOf 70 = .ok (.getfield 7, 3) := by decide +kernel
theorem dX10_swungOf_73 : decode cX10_swungOf 73 = .ok (.sipush 406, 3) := by decide +kernel
theorem dX10_swungOf_76 : decode cX10_swungOf 76 = .ok (.iaload, 1) := by decide +kernel
theorem dX10_swungOf_77 : decode cX10_swungOf 77 = .ok (.i2l, 1) := by decide +kernel
theorem dX10_swungOf_78 : decode cX10_swungOf 78 = .ok (.lmul, 1) := by decide +kernel
theorem dX10_swungOf_79 : decode cX10_swungOf 79 = .ok (.ladd, 1) := by decide +kernel
theorem dX10_swungOf_80 : decode cX10_swungOf 80 = .ok (.lload_n 3, 1) := by decide +kernel
theorem dX10_swungOf_81 : decode cX10_swungOf 81 = .ok (.ldc2_w 195, 3) := by decide +kernel
theorem dX10_swungOf_84 : decode cX10_swungOf 84 = .ok (.lsub, 1) := by decide +kernel
theorem dX10_swungOf_85 : decode cX10_swungOf 85 = .ok (.ldc2_w 142, 3) := by decide +kernel
theorem dX10_swungOf_88 : decode cX10_swungOf 88 = .ok (.lmul, 1) := by decide +kernel
theorem dX10_swungOf_89 : decode cX10_swungOf 89 = .ok (.aload_n 0, 1) := by decide +kernel
theorem dX10_swungOf_90 : decode cX10_swungOf 90 = .ok (.getfield 7, 3) := by decide +kernel
theorem dX10_swungOf_93 : decode cX10_swungOf 93 = .ok (.sipush 407, 3) := by decide +kernel
theorem dX10_swungOf_96 : decode cX10_swungOf 96 = .ok (.iaload, 1) := by decide +kernel
theorem dX10_swungOf_97 : decode cX10_swungOf 97 = .ok (.i2l, 1) := by decide +kernel
theorem dX10_swungOf_98 : decode cX10_swungOf 98 = .ok (.lmul, 1) := by decide +kernel
theorem dX10_swungOf_99 : decode cX10_swungOf 99 = .ok (.ladd, 1) := by decide +kernel
theorem dX10_swungOf_100 : decode cX10_swungOf 100 = .ok (.lreturn, 1) := by decide +kernel
theorem dX10_swung_0 : decode cX10_swung 0 = .ok (.iload_n 3, 1) := by decide +kernel
theorem dX10_swung_1 : decode cX10_swung 1 = .ok (.iconst 0, 1) := by decide +kernel
theorem dX10_swung_2 : decode cX10_swung 2 = .ok (.iconst 1, 1) := by decide +kernel
theorem dX10_swung_3 : decode cX10_swung 3 = .ok (.invokestatic 76, 3) := by decide +kernel
theorem dX10_swung_6 : decode cX10_swung 6 = .ok (.ifCond .eq 12, 3) := by decide +kernel
theorem dX10_swung_9 : decode cX10_swung 9 = .ok (.aload_n 0, 1) := by decide +kernel
theorem dX10_swung_10 : decode cX10_swung 10 = .ok (.iload_n 1, 1) := by decide +kernel
theorem dX10_swung_11 : decode cX10_swung 11 = .ok (.iload_n 2, 1) := by decide +kernel
theorem dX10_swung_12 : decode cX10_swung 12 = .ok (.invokevirtual 190, 3) := by decide +kernel
theorem dX10_swung_15 : decode cX10_swung 15 = .ok (.ifCond .ne 7, 3) := by decide +kernel
theorem dX10_swung_18 : decode cX10_swung 18 = .ok (.ldc2_w 184, 3) := by decide +kernel
theorem dX10_swung_21 : decode cX10_swung 21 = .ok (.lreturn, 1) := by decide +kernel
theorem dX10_swung_22 : decode cX10_swung 22 = .ok (.aload_n 0, 1) := by decide +kernel
theorem dX10_swung_23 : decode cX10_swung 23 = .ok (.aload_n 0, 1) := by decide +kernel
theorem dX10_swung_24 : decode cX10_swung 24 = .ok (.getfield 25, 3) := by decide +kernel
theorem dX10_swung_27 : decode cX10_swung 27 = .ok (.sipush 300, 3) := by decide +kernel
theorem dX10_swung_30 : decode cX10_swung 30 = .ok (.iload_n 1, 1) := by decide +kernel
theorem dX10_swung_31 : decode cX10_swung 31 = .ok (.imul, 1) := by decide +kernel
theorem dX10_swung_32 : decode cX10_swung 32 = .ok (.iload_n 2, 1) := by decide +kernel
theorem dX10_swung_33 : decode cX10_swung 33 = .ok (.iadd, 1) := by decide +kernel
theorem dX10_swung_34 : decode cX10_swung 34 = .ok (.laload, 1) := by decide +kernel
theorem dX10_swung_35 : decode cX10_swung 35 = .ok (.invokevirtual 197, 3) := by decide +kernel
theorem dX10_swung_38 : decode cX10_swung 38 = .ok (.ldc2_w 138, 3) := by decide +kernel
theorem dX10_swung_41 : decode cX10_swung 41 = .ok (.aload_n 0, 1) := by decide +kernel
theorem dX10_swung_42 : decode cX10_swung 42 = .ok (.getfield 7, 3) := by decide +kernel
theorem dX10_swung_45 : decode cX10_swung 45 = .ok (.sipush 406, 3) := by decide +kernel
theorem dX10_swung_48 : decode cX10_swung 48 = .ok (.iaload, 1) := by decide +kernel
theorem dX10_swung_49 : decode cX10_swung 49 = .ok (.aload_n 0, 1) := by decide +kernel
theorem dX10_swung_50 : decode cX10_swung 50 = .ok (.getfield 7, 3) := by decide +kernel
theorem dX10_swung_53 : decode cX10_swung 53 = .ok (.sipush 407, 3) := by decide +kernel
theorem dX10_swung_56 : decode cX10_swung 56 = .ok (.iaload, 1) := by decide +kernel
theorem dX10_swung_57 : decode cX10_swung 57 = .ok (.iadd, 1) := by decide +kernel
theorem dX10_swung_58 : decode cX10_swung 58 = .ok (.i2l, 1) := by decide +kernel
theorem dX10_swung_59 : decode cX10_swung 59 = .ok (.lmul, 1) := by decide +kernel
theorem dX10_swung_60 : decode cX10_swung 60 = .ok (.iload_n 3, 1) := by decide +kernel
theorem dX10_swung_61 : decode cX10_swung 61 = .ok (.invokestatic 186, 3) := by decide +kernel
theorem dX10_swung_64 : decode cX10_swung 64 = .ok (.lreturn, 1) := by decide +kernel
theorem dX10_meter_0 : decode cX10_meter 0 = .ok (.ldc2_w 138, 3) := by decide +kernel
theorem dX10_meter_3 : decode cX10_meter 3 = .ok (.aload_n 0, 1) := by decide +kernel
theorem dX10_meter_4 : decode cX10_meter 4 = .ok (.getfield 7, 3) := by decide +kernel
theorem dX10_meter_7 : decode cX10_meter 7 = .ok (.sipush 405, 3) := by decide +kernel
theorem dX10_meter_10 : decode cX10_meter 10 = .ok (.iaload, 1) := by decide +kernel
theorem dX10_meter_11 : decode cX10_meter 11 = .ok (.i2l, 1) := by decide +kernel
theorem dX10_meter_12 : decode cX10_meter 12 = .ok (.ldiv, 1) := by decide +kernel
theorem dX10_meter_13 : decode cX10_meter 13 = .ok (.aload_n 0, 1) := by decide +kernel
theorem dX10_meter_14 : decode cX10_meter 14 = .ok (.getfield 7, 3) := by decide +kernel
theorem dX10_meter_17 : decode cX10_meter 17 = .ok (.sipush 404, 3) := by decide +kernel
theorem dX10_meter_20 : decode cX10_meter 20 = .ok (.iaload, 1) := by decide +kernel
theorem dX10_meter_21 : decode cX10_meter 21 = .ok (.i2l, 1) := by decide +kernel
theorem dX10_meter_22 : decode cX10_meter 22 = .ok (.lmul, 1) := by decide +kernel
theorem dX10_meter_23 : decode cX10_meter 23 = .ok (.lreturn, 1) := by decide +kernel
theorem dX10_levelOf_0 : decode cX10_levelOf 0 = .ok (.iconst 0, 1) := by decide +kernel
theorem dX10_levelOf_1 : decode cX10_levelOf 1 = .ok (.istore_n 3, 1) := by decide +kernel
theorem dX10_levelOf_2 : decode cX10_levelOf 2 = .ok (.iload_n 3, 1) := by decide +kernel
theorem dX10_levelOf_3 : decode cX10_levelOf 3 = .ok (.bipush 7, 2) := by decide +kernel
theorem dX10_levelOf_5 : decode cX10_levelOf 5 = .ok (.if_icmp .ge 24, 3) := by decide +kernel
theorem dX10_levelOf_8 : decode cX10_levelOf 8 = .ok (.lload_n 1, 1) := by decide +kernel
theorem dX10_levelOf_9 : decode cX10_levelOf 9 = .ok (.aload_n 0, 1) := by decide +kernel
theorem dX10_levelOf_10 : decode cX10_levelOf 10 = .ok (.invokevirtual 201, 3) := by decide +kernel
theorem dX10_levelOf_13 : decode cX10_levelOf 13 = .ok (.iload_n 3, 1) := by decide +kernel
theorem dX10_levelOf_14 : decode cX10_levelOf 14 = .ok (.lshr, 1) := by decide +kernel
theorem dX10_levelOf_15 : decode cX10_levelOf 15 = .ok (.lrem, 1) := by decide +kernel
theorem dX10_levelOf_16 : decode cX10_levelOf 16 = .ok (.lconst 0, 1) := by decide +kernel
theorem dX10_levelOf_17 : decode cX10_levelOf 17 = .ok (.lcmp, 1) := by decide +kernel
theorem dX10_levelOf_18 : decode cX10_levelOf 18 = .ok (.ifCond .ne 5, 3) := by decide +kernel
theorem dX10_levelOf_21 : decode cX10_levelOf 21 = .ok (.iload_n 3, 1) := by decide +kernel
theorem dX10_levelOf_22 : decode cX10_levelOf 22 = .ok (.ireturn, 1) := by decide +kernel
theorem dX10_levelOf_23 : decode cX10_levelOf 23 = .ok (.iinc 3 1, 3) := by decide +kernel
theorem dX10_levelOf_26 : decode cX10_levelOf 26 = .ok (.goto (-24), 3) := by decide +kernel
theorem dX10_levelOf_29 : decode cX10_levelOf 29 = .ok (.bipush 7, 2) := by decide +kernel
theorem dX10_levelOf_31 : decode cX10_levelOf 31 = .ok (.ireturn, 1) := by decide +kernel
theorem dX10_syncopationOf_0 : decode cX10_syncopationOf 0 = .ok (.aload_n 0, 1) := by decide +kernel
theorem dX10_syncopationOf_1 : decode cX10_syncopationOf 1 = .ok (.getfield 25, 3) := by decide +kernel
theorem dX10_syncopationOf_4 : decode cX10_syncopationOf 4 = .ok (.iload_n 1, 1) := by decide +kernel
theorem dX10_syncopationOf_5 : decode cX10_syncopationOf 5 = .ok (.laload, 1) := by decide +kernel
theorem dX10_syncopationOf_6 : decode cX10_syncopationOf 6 = .ok (.lstore_n 2, 1) := by decide +kernel
theorem dX10_syncopationOf_7 : decode cX10_syncopationOf 7 = .ok (.lload_n 2, 1) := by decide +kernel
theorem dX10_syncopationOf_8 : decode cX10_syncopationOf 8 = .ok (.aload_n 0, 1) := by decide +kernel
theorem dX10_syncopationOf_9 : decode cX10_syncopationOf 9 = .ok (.getfield 29, 3) := by decide +kernel
theorem dX10_syncopationOf_12 : decode cX10_syncopationOf 12 = .ok (.iload_n 1, 1) := by decide +kernel
theorem dX10_syncopationOf_13 : decode cX10_syncopationOf 13 = .ok (.laload, 1) := by decide +kernel
theorem dX10_syncopationOf_14 : decode cX10_syncopationOf 14 = .ok (.ladd, 1) := by decide +kernel
theorem dX10_syncopationOf_15 : decode cX10_syncopationOf 15 = .ok (.lstore 4, 2) := by decide +kernel
theorem dX10_syncopationOf_17 : decode cX10_syncopationOf 17 = .ok (.iconst 0, 1) := by decide +kernel
theorem dX10_syncopationOf_18 : decode cX10_syncopationOf 18 = .ok (.istore 6, 2) := by decide +kernel
theorem dX10_syncopationOf_20 : decode cX10_syncopationOf 20 = .ok (.iload 6, 2) := by decide +kernel
theorem dX10_syncopationOf_22 : decode cX10_syncopationOf 22 = .ok (.bipush 7, 2) := by decide +kernel
theorem dX10_syncopationOf_24 : decode cX10_syncopationOf 24 = .ok (.if_icmp .ge 55, 3) := by decide +kernel
theorem dX10_syncopationOf_27 : decode cX10_syncopationOf 27 = .ok (.aload_n 0, 1) := by decide +kernel
theorem dX10_syncopationOf_28 : decode cX10_syncopationOf 28 = .ok (.invokevirtual 201, 3) := by decide +kernel
theorem dX10_syncopationOf_31 : decode cX10_syncopationOf 31 = .ok (.iload 6, 2) := by decide +kernel
theorem dX10_syncopationOf_33 : decode cX10_syncopationOf 33 = .ok (.lshr, 1) := by decide +kernel
theorem dX10_syncopationOf_34 : decode cX10_syncopationOf 34 = .ok (.lstore 7, 2) := by decide +kernel
theorem dX10_syncopationOf_36 : decode cX10_syncopationOf 36 = .ok (.lload_n 2, 1) := by decide +kernel
theorem dX10_syncopationOf_37 : decode cX10_syncopationOf 37 = .ok (.lload 7, 2) := by decide +kernel
theorem dX10_syncopationOf_39 : decode cX10_syncopationOf 39 = .ok (.ldiv, 1) := by decide +kernel
theorem dX10_syncopationOf_40 : decode cX10_syncopationOf 40 = .ok (.lconst 1, 1) := by decide +kernel
theorem dX10_syncopationOf_41 : decode cX10_syncopationOf 41 = .ok (.ladd, 1) := by decide +kernel
theorem dX10_syncopationOf_42 : decode cX10_syncopationOf 42 = .ok (.lload 7, 2) := by decide +kernel
theorem dX10_syncopationOf_44 : decode cX10_syncopationOf 44 = .ok (.lmul, 1) := by decide +kernel
theorem dX10_syncopationOf_45 : decode cX10_syncopationOf 45 = .ok (.lload 4, 2) := by decide +kernel
theorem dX10_syncopationOf_47 : decode cX10_syncopationOf 47 = .ok (.lcmp, 1) := by decide +kernel
theorem dX10_syncopationOf_48 : decode cX10_syncopationOf 48 = .ok (.ifCond .ge 25, 3) := by decide +kernel
theorem dX10_syncopationOf_51 : decode cX10_syncopationOf 51 = .ok (.aload_n 0, 1) := by decide +kernel
theorem dX10_syncopationOf_52 : decode cX10_syncopationOf 52 = .ok (.lload_n 2, 1) := by decide +kernel
theorem dX10_syncopationOf_53 : decode cX10_syncopationOf 53 = .ok (.invokevirtual 205, 3) := by decide +kernel
theorem dX10_syncopationOf_56 : decode cX10_syncopationOf 56 = .ok (.iload 6, 2) := by decide +kernel
theorem dX10_syncopationOf_58 : decode cX10_syncopationOf 58 = .ok (.isub, 1) := by decide +kernel
theorem dX10_syncopationOf_59 : decode cX10_syncopationOf 59 = .ok (.istore 9, 2) := by decide +kernel
theorem dX10_syncopationOf_61 : decode cX10_syncopationOf 61 = .ok (.iload 9, 2) := by decide +kernel
theorem dX10_syncopationOf_63 : decode cX10_syncopationOf 63 = .ok (.ifCond .le 8, 3) := by decide +kernel
theorem dX10_syncopationOf_66 : decode cX10_syncopationOf 66 = .ok (.iload 9, 2) := by decide +kernel
theorem dX10_syncopationOf_68 : decode cX10_syncopationOf 68 = .ok (.goto 4, 3) := by decide +kernel
theorem dX10_syncopationOf_71 : decode cX10_syncopationOf 71 = .ok (.iconst 0, 1) := by decide +kernel
theorem dX10_syncopationOf_72 : decode cX10_syncopationOf 72 = .ok (.ireturn, 1) := by decide +kernel
theorem dX10_syncopationOf_73 : decode cX10_syncopationOf 73 = .ok (.iinc 6 1, 3) := by decide +kernel
theorem dX10_syncopationOf_76 : decode cX10_syncopationOf 76 = .ok (.goto (-56), 3) := by decide +kernel
theorem dX10_syncopationOf_79 : decode cX10_syncopationOf 79 = .ok (.iconst 0, 1) := by decide +kernel
theorem dX10_syncopationOf_80 : decode cX10_syncopationOf 80 = .ok (.ireturn, 1) := by decide +kernel
theorem dX10_event_0 : decode cX10_event 0 = .ok (.iload_n 3, 1) := by decide +kernel
theorem dX10_event_1 : decode cX10_event 1 = .ok (.iconst 0, 1) := by decide +kernel
theorem dX10_event_2 : decode cX10_event 2 = .ok (.iconst 4, 1) := by decide +kernel
theorem dX10_event_3 : decode cX10_event 3 = .ok (.invokestatic 76, 3) := by decide +kernel
theorem dX10_event_6 : decode cX10_event 6 = .ok (.ifCond .eq 12, 3) := by decide +kernel
theorem dX10_event_9 : decode cX10_event 9 = .ok (.aload_n 0, 1) := by decide +kernel
theorem dX10_event_10 : decode cX10_event 10 = .ok (.iload_n 1, 1) := by decide +kernel
theorem dX10_event_11 : decode cX10_event 11 = .ok (.iload_n 2, 1) := by decide +kernel
theorem dX10_event_12 : decode cX10_event 12 = .ok (.invokevirtual 190, 3) := by decide +kernel
theorem dX10_event_15 : decode cX10_event 15 = .ok (.ifCond .ne 5, 3) := by decide +kernel
theorem dX10_event_18 : decode cX10_event 18 = .ok (.iconst (-1), 1) := by decide +kernel
theorem dX10_event_19 : decode cX10_event 19 = .ok (.ireturn, 1) := by decide +kernel
theorem dX10_event_20 : decode cX10_event 20 = .ok (.sipush 300, 3) := by decide +kernel
theorem dX10_event_23 : decode cX10_event 23 = .ok (.iload_n 1, 1) := by decide +kernel
theorem dX10_event_24 : decode cX10_event 24 = .ok (.imul, 1) := by decide +kernel
theorem dX10_event_25 : decode cX10_event 25 = .ok (.iload_n 2, 1) := by decide +kernel
theorem dX10_event_26 : decode cX10_event 26 = .ok (.iadd, 1) := by decide +kernel
theorem dX10_event_27 : decode cX10_event 27 = .ok (.istore 4, 2) := by decide +kernel
theorem dX10_event_29 : decode cX10_event 29 = .ok (.iload_n 3, 1) := by decide +kernel
theorem dX10_event_30 : decode cX10_event 30 = .ok (.tableswitch 66 0 3 #[30, 38, 46, 54], 30) := by decide +kernel
theorem dX10_event_60 : decode cX10_event 60 = .ok (.aload_n 0, 1) := by decide +kernel
theorem dX10_event_61 : decode cX10_event 61 = .ok (.getfield 32, 3) := by decide +kernel
theorem dX10_event_64 : decode cX10_event 64 = .ok (.iload 4, 2) := by decide +kernel
theorem dX10_event_66 : decode cX10_event 66 = .ok (.iaload, 1) := by decide +kernel
theorem dX10_event_67 : decode cX10_event 67 = .ok (.ireturn, 1) := by decide +kernel
theorem dX10_event_68 : decode cX10_event 68 = .ok (.aload_n 0, 1) := by decide +kernel
theorem dX10_event_69 : decode cX10_event 69 = .ok (.getfield 35, 3) := by decide +kernel
theorem dX10_event_72 : decode cX10_event 72 = .ok (.iload 4, 2) := by decide +kernel
theorem dX10_event_74 : decode cX10_event 74 = .ok (.iaload, 1) := by decide +kernel
theorem dX10_event_75 : decode cX10_event 75 = .ok (.ireturn, 1) := by decide +kernel
theorem dX10_event_76 : decode cX10_event 76 = .ok (.aload_n 0, 1) := by decide +kernel
theorem dX10_event_77 : decode cX10_event 77 = .ok (.getfield 38, 3) := by decide +kernel
theorem dX10_event_80 : decode cX10_event 80 = .ok (.iload 4, 2) := by decide +kernel
theorem dX10_event_82 : decode cX10_event 82 = .ok (.iaload, 1) := by decide +kernel
theorem dX10_event_83 : decode cX10_event 83 = .ok (.ireturn, 1) := by decide +kernel
theorem dX10_event_84 : decode cX10_event 84 = .ok (.aload_n 0, 1) := by decide +kernel
theorem dX10_event_85 : decode cX10_event 85 = .ok (.aload_n 0, 1) := by decide +kernel
theorem dX10_event_86 : decode cX10_event 86 = .ok (.getfield 25, 3) := by decide +kernel
theorem dX10_event_89 : decode cX10_event 89 = .ok (.iload 4, 2) := by decide +kernel
theorem dX10_event_91 : decode cX10_event 91 = .ok (.laload, 1) := by decide +kernel
theorem dX10_event_92 : decode cX10_event 92 = .ok (.invokevirtual 205, 3) := by decide +kernel
theorem dX10_event_95 : decode cX10_event 95 = .ok (.ireturn, 1) := by decide +kernel
theorem dX10_event_96 : decode cX10_event 96 = .ok (.aload_n 0, 1) := by decide +kernel
theorem dX10_event_97 : decode cX10_event 97 = .ok (.iload 4, 2) := by decide +kernel
theorem dX10_event_99 : decode cX10_event 99 = .ok (.invokevirtual 209, 3) := by decide +kernel
theorem dX10_event_102 : decode cX10_event 102 = .ok (.ireturn, 1) := by decide +kernel
theorem dX10_bars_0 : decode cX10_bars 0 = .ok (.iload_n 1, 1) := by decide +kernel
theorem dX10_bars_1 : decode cX10_bars 1 = .ok (.invokestatic 163, 3) := by decide +kernel
theorem dX10_bars_4 : decode cX10_bars 4 = .ok (.ifCond .ne 5, 3) := by decide +kernel
theorem dX10_bars_7 : decode cX10_bars 7 = .ok (.iconst (-1), 1) := by decide +kernel
theorem dX10_bars_8 : decode cX10_bars 8 = .ok (.ireturn, 1) := by decide +kernel
theorem dX10_bars_9 : decode cX10_bars 9 = .ok (.aload_n 0, 1) := by decide +kernel
theorem dX10_bars_10 : decode cX10_bars 10 = .ok (.iload_n 1, 1) := by decide +kernel
theorem dX10_bars_11 : decode cX10_bars 11 = .ok (.invokevirtual 174, 3) := by decide +kernel
theorem dX10_bars_14 : decode cX10_bars 14 = .ok (.aload_n 0, 1) := by decide +kernel
theorem dX10_bars_15 : decode cX10_bars 15 = .ok (.getfield 47, 3) := by decide +kernel
theorem dX10_bars_18 : decode cX10_bars 18 = .ok (.iload_n 1, 1) := by decide +kernel
theorem dX10_bars_19 : decode cX10_bars 19 = .ok (.iaload, 1) := by decide +kernel
theorem dX10_bars_20 : decode cX10_bars 20 = .ok (.ireturn, 1) := by decide +kernel
theorem dX10_bar_0 : decode cX10_bar 0 = .ok (.iload_n 1, 1) := by decide +kernel
theorem dX10_bar_1 : decode cX10_bar 1 = .ok (.invokestatic 163, 3) := by decide +kernel
theorem dX10_bar_4 : decode cX10_bar 4 = .ok (.ifCond .eq 12, 3) := by decide +kernel
theorem dX10_bar_7 : decode cX10_bar 7 = .ok (.iload_n 3, 1) := by decide +kernel
theorem dX10_bar_8 : decode cX10_bar 8 = .ok (.iconst 0, 1) := by decide +kernel
theorem dX10_bar_9 : decode cX10_bar 9 = .ok (.iconst 1, 1) := by decide +kernel
theorem dX10_bar_10 : decode cX10_bar 10 = .ok (.invokestatic 76, 3) := by decide +kernel
theorem dX10_bar_13 : decode cX10_bar 13 = .ok (.ifCond .ne 7, 3) := by decide +kernel
theorem dX10_bar_16 : decode cX10_bar 16 = .ok (.ldc2_w 184, 3) := by decide +kernel
theorem dX10_bar_19 : decode cX10_bar 19 = .ok (.lreturn, 1) := by decide +kernel
theorem dX10_bar_20 : decode cX10_bar 20 = .ok (.aload_n 0, 1) := by decide +kernel
theorem dX10_bar_21 : decode cX10_bar 21 = .ok (.iload_n 1, 1) := by decide +kernel
theorem dX10_bar_22 : decode cX10_bar 22 = .ok (.invokevirtual 174, 3) := by decide +kernel
theorem dX10_bar_25 : decode cX10_bar 25 = .ok (.iload_n 2, 1) := by decide +kernel
theorem dX10_bar_26 : decode cX10_bar 26 = .ok (.iconst 0, 1) := by decide +kernel
theorem dX10_bar_27 : decode cX10_bar 27 = .ok (.aload_n 0, 1) := by decide +kernel
theorem dX10_bar_28 : decode cX10_bar 28 = .ok (.getfield 47, 3) := by decide +kernel
theorem dX10_bar_31 : decode cX10_bar 31 = .ok (.iload_n 1, 1) := by decide +kernel
theorem dX10_bar_32 : decode cX10_bar 32 = .ok (.iaload, 1) := by decide +kernel
theorem dX10_bar_33 : decode cX10_bar 33 = .ok (.iconst 1, 1) := by decide +kernel
theorem dX10_bar_34 : decode cX10_bar 34 = .ok (.isub, 1) := by decide +kernel
theorem dX10_bar_35 : decode cX10_bar 35 = .ok (.invokestatic 76, 3) := by decide +kernel
theorem dX10_bar_38 : decode cX10_bar 38 = .ok (.ifCond .eq 19, 3) := by decide +kernel
theorem dX10_bar_41 : decode cX10_bar 41 = .ok (.aload_n 0, 1) := by decide +kernel
theorem dX10_bar_42 : decode cX10_bar 42 = .ok (.getfield 50, 3) := by decide +kernel
theorem dX10_bar_45 : decode cX10_bar 45 = .ok (.iload_n 2, 1) := by decide +kernel
theorem dX10_bar_46 : decode cX10_bar 46 = .ok (.laload, 1) := by decide +kernel
theorem dX10_bar_47 : decode cX10_bar 47 = .ok (.ldc2_w 138, 3) := by decide +kernel
theorem dX10_bar_50 : decode cX10_bar 50 = .ok (.iload_n 3, 1) := by decide +kernel
theorem dX10_bar_51 : decode cX10_bar 51 = .ok (.invokestatic 186, 3) := by decide +kernel
theorem dX10_bar_54 : decode cX10_bar 54 = .ok (.goto 6, 3) := by decide +kernel
theorem dX10_bar_57 : decode cX10_bar 57 = .ok (.ldc2_w 184, 3) := by decide +kernel
theorem dX10_bar_60 : decode cX10_bar 60 = .ok (.lreturn, 1) := by decide +kernel
theorem dX10_wrongBar_0 : decode cX10_wrongBar 0 = .ok (.iload_n 1, 1) := by decide +kernel
theorem dX10_wrongBar_1 : decode cX10_wrongBar 1 = .ok (.invokestatic 163, 3) := by decide +kernel
theorem dX10_wrongBar_4 : decode cX10_wrongBar 4 = .ok (.ifCond .ne 5, 3) := by decide +kernel
theorem dX10_wrongBar_7 : decode cX10_wrongBar 7 = .ok (.iconst (-1), 1) := by decide +kernel
theorem dX10_wrongBar_8 : decode cX10_wrongBar 8 = .ok (.ireturn, 1) := by decide +kernel
theorem dX10_wrongBar_9 : decode cX10_wrongBar 9 = .ok (.aload_n 0, 1) := by decide +kernel
theorem dX10_wrongBar_10 : decode cX10_wrongBar 10 = .ok (.iload_n 1, 1) := by decide +kernel
theorem dX10_wrongBar_11 : decode cX10_wrongBar 11 = .ok (.invokevirtual 174, 3) := by decide +kernel
theorem dX10_wrongBar_14 : decode cX10_wrongBar 14 = .ok (.iconst 0, 1) := by decide +kernel
theorem dX10_wrongBar_15 : decode cX10_wrongBar 15 = .ok (.istore_n 2, 1) := by decide +kernel
theorem dX10_wrongBar_16 : decode cX10_wrongBar 16 = .ok (.iload_n 2, 1) := by decide +kernel
theorem dX10_wrongBar_17 : decode cX10_wrongBar 17 = .ok (.aload_n 0, 1) := by decide +kernel
theorem dX10_wrongBar_18 : decode cX10_wrongBar 18 = .ok (.getfield 47, 3) := by decide +kernel
theorem dX10_wrongBar_21 : decode cX10_wrongBar 21 = .ok (.iload_n 1, 1) := by decide +kernel
theorem dX10_wrongBar_22 : decode cX10_wrongBar 22 = .ok (.iaload, 1) := by decide +kernel
theorem dX10_wrongBar_23 : decode cX10_wrongBar 23 = .ok (.if_icmp .ge 56, 3) := by decide +kernel
theorem dX10_wrongBar_26 : decode cX10_wrongBar 26 = .ok (.iload_n 2, 1) := by decide +kernel
theorem dX10_wrongBar_27 : decode cX10_wrongBar 27 = .ok (.aload_n 0, 1) := by decide +kernel
theorem dX10_wrongBar_28 : decode cX10_wrongBar 28 = .ok (.getfield 47, 3) := by decide +kernel
theorem dX10_wrongBar_31 : decode cX10_wrongBar 31 = .ok (.iload_n 1, 1) := by decide +kernel
theorem dX10_wrongBar_32 : decode cX10_wrongBar 32 = .ok (.iaload, 1) := by decide +kernel
theorem dX10_wrongBar_33 : decode cX10_wrongBar 33 = .ok (.iconst 1, 1) := by decide +kernel
theorem dX10_wrongBar_34 : decode cX10_wrongBar 34 = .ok (.isub, 1) := by decide +kernel
theorem dX10_wrongBar_35 : decode cX10_wrongBar 35 = .ok (.if_icmp .ne 16, 3) := by decide +kernel
theorem dX10_wrongBar_38 : decode cX10_wrongBar 38 = .ok (.aload_n 0, 1) := by decide +kernel
theorem dX10_wrongBar_39 : decode cX10_wrongBar 39 = .ok (.getfield 53, 3) := by decide +kernel
theorem dX10_wrongBar_42 : decode cX10_wrongBar 42 = .ok (.iload_n 2, 1) := by decide +kernel
theorem dX10_wrongBar_43 : decode cX10_wrongBar 43 = .ok (.baload, 1) := by decide +kernel
theorem dX10_wrongBar_44 : decode cX10_wrongBar 44 = .ok (.ifCond .eq 7, 3) := by decide +kernel
theorem dX10_wrongBar_47 : decode cX10_wrongBar 47 = .ok (.iconst 1, 1) := by decide +kernel
theorem dX10_wrongBar_48 : decode cX10_wrongBar 48 = .ok (.goto 4, 3) := by decide +kernel
theorem dX10_wrongBar_51 : decode cX10_wrongBar 51 = .ok (.iconst 0, 1) := by decide +kernel
theorem dX10_wrongBar_52 : decode cX10_wrongBar 52 = .ok (.istore_n 3, 1) := by decide +kernel
theorem dX10_wrongBar_53 : decode cX10_wrongBar 53 = .ok (.aload_n 0, 1) := by decide +kernel
theorem dX10_wrongBar_54 : decode cX10_wrongBar 54 = .ok (.getfield 50, 3) := by decide +kernel
theorem dX10_wrongBar_57 : decode cX10_wrongBar 57 = .ok (.iload_n 2, 1) := by decide +kernel
theorem dX10_wrongBar_58 : decode cX10_wrongBar 58 = .ok (.laload, 1) := by decide +kernel
theorem dX10_wrongBar_59 : decode cX10_wrongBar 59 = .ok (.aload_n 0, 1) := by decide +kernel
theorem dX10_wrongBar_60 : decode cX10_wrongBar 60 = .ok (.invokevirtual 201, 3) := by decide +kernel
theorem dX10_wrongBar_63 : decode cX10_wrongBar 63 = .ok (.lcmp, 1) := by decide +kernel
theorem dX10_wrongBar_64 : decode cX10_wrongBar 64 = .ok (.ifCond .eq 9, 3) := by decide +kernel
theorem dX10_wrongBar_67 : decode cX10_wrongBar 67 = .ok (.iload_n 3, 1) := by decide +kernel
theorem dX10_wrongBar_68 : decode cX10_wrongBar 68 = .ok (.ifCond .ne 5, 3) := by decide +kernel
theorem dX10_wrongBar_71 : decode cX10_wrongBar 71 = .ok (.iload_n 2, 1) := by decide +kernel
theorem dX10_wrongBar_72 : decode cX10_wrongBar 72 = .ok (.ireturn, 1) := by decide +kernel
theorem dX10_wrongBar_73 : decode cX10_wrongBar 73 = .ok (.iinc 2 1, 3) := by decide +kernel
theorem dX10_wrongBar_76 : decode cX10_wrongBar 76 = .ok (.goto (-60), 3) := by decide +kernel
theorem dX10_wrongBar_79 : decode cX10_wrongBar 79 = .ok (.bipush (-9), 2) := by decide +kernel
theorem dX10_wrongBar_81 : decode cX10_wrongBar 81 = .ok (.ireturn, 1) := by decide +kernel
theorem dX10_syncopation_0 : decode cX10_syncopation 0 = .ok (.iload_n 1, 1) := by decide +kernel
theorem dX10_syncopation_1 : decode cX10_syncopation 1 = .ok (.invokestatic 163, 3) := by decide +kernel
theorem dX10_syncopation_4 : decode cX10_syncopation 4 = .ok (.ifCond .ne 5, 3) := by decide +kernel
theorem dX10_syncopation_7 : decode cX10_syncopation 7 = .ok (.iconst (-1), 1) := by decide +kernel
theorem dX10_syncopation_8 : decode cX10_syncopation 8 = .ok (.ireturn, 1) := by decide +kernel
theorem dX10_syncopation_9 : decode cX10_syncopation 9 = .ok (.aload_n 0, 1) := by decide +kernel
theorem dX10_syncopation_10 : decode cX10_syncopation 10 = .ok (.iload_n 1, 1) := by decide +kernel
theorem dX10_syncopation_11 : decode cX10_syncopation 11 = .ok (.invokevirtual 174, 3) := by decide +kernel
theorem dX10_syncopation_14 : decode cX10_syncopation 14 = .ok (.iconst 0, 1) := by decide +kernel
theorem dX10_syncopation_15 : decode cX10_syncopation 15 = .ok (.istore_n 2, 1) := by decide +kernel
theorem dX10_syncopation_16 : decode cX10_syncopation 16 = .ok (.iconst 0, 1) := by decide +kernel
theorem dX10_syncopation_17 : decode cX10_syncopation 17 = .ok (.istore_n 3, 1) := by decide +kernel
theorem dX10_syncopation_18 : decode cX10_syncopation 18 = .ok (.iload_n 3, 1) := by decide +kernel
theorem dX10_syncopation_19 : decode cX10_syncopation 19 = .ok (.aload_n 0, 1) := by decide +kernel
theorem dX10_syncopation_20 : decode cX10_syncopation 20 = .ok (.getfield 41, 3) := by decide +kernel
theorem dX10_syncopation_23 : decode cX10_syncopation 23 = .ok (.iload_n 1, 1) := by decide +kernel
theorem dX10_syncopation_24 : decode cX10_syncopation 24 = .ok (.iaload, 1) := by decide +kernel
theorem dX10_syncopation_25 : decode cX10_syncopation 25 = .ok (.if_icmp .ge 23, 3) := by decide +kernel
theorem dX10_syncopation_28 : decode cX10_syncopation 28 = .ok (.iload_n 2, 1) := by decide +kernel
theorem dX10_syncopation_29 : decode cX10_syncopation 29 = .ok (.aload_n 0, 1) := by decide +kernel
theorem dX10_syncopation_30 : decode cX10_syncopation 30 = .ok (.sipush 300, 3) := by decide +kernel
theorem dX10_syncopation_33 : decode cX10_syncopation 33 = .ok (.iload_n 1, 1) := by decide +kernel
theorem dX10_syncopation_34 : decode cX10_syncopation 34 = .ok (.imul, 1) := by decide +kernel
theorem dX10_syncopation_35 : decode cX10_syncopation 35 = .ok (.iload_n 3, 1) := by decide +kernel
theorem dX10_syncopation_36 : decode cX10_syncopation 36 = .ok (.iadd, 1) := by decide +kernel
theorem dX10_syncopation_37 : decode cX10_syncopation 37 = .ok (.invokevirtual 209, 3) := by decide +kernel
theorem dX10_syncopation_40 : decode cX10_syncopation 40 = .ok (.iadd, 1) := by decide +kernel
theorem dX10_syncopation_41 : decode cX10_syncopation 41 = .ok (.istore_n 2, 1) := by decide +kernel
theorem dX10_syncopation_42 : decode cX10_syncopation 42 = .ok (.iinc 3 1, 3) := by decide +kernel
theorem dX10_syncopation_45 : decode cX10_syncopation 45 = .ok (.goto (-27), 3) := by decide +kernel
theorem dX10_syncopation_48 : decode cX10_syncopation 48 = .ok (.iload_n 2, 1) := by decide +kernel
theorem dX10_syncopation_49 : decode cX10_syncopation 49 = .ok (.ireturn, 1) := by decide +kernel
theorem dX10_offGrid_0 : decode cX10_offGrid 0 = .ok (.iload_n 1, 1) := by decide +kernel
theorem dX10_offGrid_1 : decode cX10_offGrid 1 = .ok (.invokestatic 163, 3) := by decide +kernel
theorem dX10_offGrid_4 : decode cX10_offGrid 4 = .ok (.ifCond .eq 14, 3) := by decide +kernel
theorem dX10_offGrid_7 : decode cX10_offGrid 7 = .ok (.iload_n 2, 1) := by decide +kernel
theorem dX10_offGrid_8 : decode cX10_offGrid 8 = .ok (.iconst 1, 1) := by decide +kernel
theorem dX10_offGrid_9 : decode cX10_offGrid 9 = .ok (.sipush 1000, 3) := by decide +kernel
theorem dX10_offGrid_12 : decode cX10_offGrid 12 = .ok (.invokestatic 76, 3) := by decide +kernel
theorem dX10_offGrid_15 : decode cX10_offGrid 15 = .ok (.ifCond .ne 5, 3) := by decide +kernel
theorem dX10_offGrid_18 : decode cX10_offGrid 18 = .ok (.iconst (-1), 1) := by decide +kernel
theorem dX10_offGrid_19 : decode cX10_offGrid 19 = .ok (.ireturn, 1) := by decide +kernel
theorem dX10_offGrid_20 : decode cX10_offGrid 20 = .ok (.aload_n 0, 1) := by decide +kernel
theorem dX10_offGrid_21 : decode cX10_offGrid 21 = .ok (.iload_n 1, 1) := by decide +kernel
theorem dX10_offGrid_22 : decode cX10_offGrid 22 = .ok (.invokevirtual 174, 3) := by decide +kernel
theorem dX10_offGrid_25 : decode cX10_offGrid 25 = .ok (.iconst 0, 1) := by decide +kernel
theorem dX10_offGrid_26 : decode cX10_offGrid 26 = .ok (.istore_n 3, 1) := by decide +kernel
theorem dX10_offGrid_27 : decode cX10_offGrid 27 = .ok (.iconst 0, 1) := by decide +kernel
theorem dX10_offGrid_28 : decode cX10_offGrid 28 = .ok (.istore 4, 2) := by decide +kernel
theorem dX10_offGrid_30 : decode cX10_offGrid 30 = .ok (.iload 4, 2) := by decide +kernel
theorem dX10_offGrid_32 : decode cX10_offGrid 32 = .ok (.aload_n 0, 1) := by decide +kernel
theorem dX10_offGrid_33 : decode cX10_offGrid 33 = .ok (.getfield 41, 3) := by decide +kernel
theorem dX10_offGrid_36 : decode cX10_offGrid 36 = .ok (.iload_n 1, 1) := by decide +kernel
theorem dX10_offGrid_37 : decode cX10_offGrid 37 = .ok (.iaload, 1) := by decide +kernel
theorem dX10_offGrid_38 : decode cX10_offGrid 38 = .ok (.if_icmp .ge 42, 3) := by decide +kernel
theorem dX10_offGrid_41 : decode cX10_offGrid 41 = .ok (.iload_n 3, 1) := by decide +kernel
theorem dX10_offGrid_42 : decode cX10_offGrid 42 = .ok (.aload_n 0, 1) := by decide +kernel
theorem dX10_offGrid_43 : decode cX10_offGrid 43 = .ok (.getfield 25, 3) := by decide +kernel
theorem dX10_offGrid_46 : decode cX10_offGrid 46 = .ok (.sipush 300, 3) := by decide +kernel
theorem dX10_offGrid_49 : decode cX10_offGrid 49 = .ok (.iload_n 1, 1) := by decide +kernel
theorem dX10_offGrid_50 : decode cX10_offGrid 50 = .ok (.imul, 1) := by decide +kernel
theorem dX10_offGrid_51 : decode cX10_offGrid 51 = .ok (.iload 4, 2) := by decide +kernel
theorem dX10_offGrid_53 : decode cX10_offGrid 53 = .ok (.iadd, 1) := by decide +kernel
theorem dX10_offGrid_54 : decode cX10_offGrid 54 = .ok (.laload, 1) := by decide +kernel
theorem dX10_offGrid_55 : decode cX10_offGrid 55 = .ok (.iload_n 2, 1) := by decide +kernel
theorem dX10_offGrid_56 : decode cX10_offGrid 56 = .ok (.i2l, 1) := by decide +kernel
theorem dX10_offGrid_57 : decode cX10_offGrid 57 = .ok (.lmul, 1) := by decide +kernel
theorem dX10_offGrid_58 : decode cX10_offGrid 58 = .ok (.ldc2_w 138, 3) := by decide +kernel
theorem dX10_offGrid_61 : decode cX10_offGrid 61 = .ok (.lrem, 1) := by decide +kernel
theorem dX10_offGrid_62 : decode cX10_offGrid 62 = .ok (.lconst 0, 1) := by decide +kernel
theorem dX10_offGrid_63 : decode cX10_offGrid 63 = .ok (.lcmp, 1) := by decide +kernel
theorem dX10_offGrid_64 : decode cX10_offGrid 64 = .ok (.ifCond .ne 7, 3) := by decide +kernel
theorem dX10_offGrid_67 : decode cX10_offGrid 67 = .ok (.iconst 0, 1) := by decide +kernel
theorem dX10_offGrid_68 : decode cX10_offGrid 68 = .ok (.goto 4, 3) := by decide +kernel
theorem dX10_offGrid_71 : decode cX10_offGrid 71 = .ok (.iconst 1, 1) := by decide +kernel
theorem dX10_offGrid_72 : decode cX10_offGrid 72 = .ok (.iadd, 1) := by decide +kernel
theorem dX10_offGrid_73 : decode cX10_offGrid 73 = .ok (.istore_n 3, 1) := by decide +kernel
theorem dX10_offGrid_74 : decode cX10_offGrid 74 = .ok (.iinc 4 1, 3) := by decide +kernel
theorem dX10_offGrid_77 : decode cX10_offGrid 77 = .ok (.goto (-47), 3) := by decide +kernel
theorem dX10_offGrid_80 : decode cX10_offGrid 80 = .ok (.iload_n 3, 1) := by decide +kernel
theorem dX10_offGrid_81 : decode cX10_offGrid 81 = .ok (.ireturn, 1) := by decide +kernel
theorem dX10_leastGrid_0 : decode cX10_leastGrid 0 = .ok (.iload_n 1, 1) := by decide +kernel
theorem dX10_leastGrid_1 : decode cX10_leastGrid 1 = .ok (.invokestatic 163, 3) := by decide +kernel
theorem dX10_leastGrid_4 : decode cX10_leastGrid 4 = .ok (.ifCond .ne 5, 3) := by decide +kernel
theorem dX10_leastGrid_7 : decode cX10_leastGrid 7 = .ok (.iconst (-1), 1) := by decide +kernel
theorem dX10_leastGrid_8 : decode cX10_leastGrid 8 = .ok (.ireturn, 1) := by decide +kernel
theorem dX10_leastGrid_9 : decode cX10_leastGrid 9 = .ok (.aload_n 0, 1) := by decide +kernel
theorem dX10_leastGrid_10 : decode cX10_leastGrid 10 = .ok (.iload_n 1, 1) := by decide +kernel
theorem dX10_leastGrid_11 : decode cX10_leastGrid 11 = .ok (.invokevirtual 174, 3) := by decide +kernel
theorem dX10_leastGrid_14 : decode cX10_leastGrid 14 = .ok (.lconst 1, 1) := by decide +kernel
theorem dX10_leastGrid_15 : decode cX10_leastGrid 15 = .ok (.lstore_n 2, 1) := by decide +kernel
theorem dX10_leastGrid_16 : decode cX10_leastGrid 16 = .ok (.iconst 0, 1) := by decide +kernel
theorem dX10_leastGrid_17 : decode cX10_leastGrid 17 = .ok (.istore 4, 2) := by decide +kernel
theorem dX10_leastGrid_19 : decode cX10_leastGrid 19 = .ok (.iload 4, 2) := by decide +kernel
theorem dX10_leastGrid_21 : decode cX10_leastGrid 21 = .ok (.aload_n 0, 1) := by decide +kernel
theorem dX10_leastGrid_22 : decode cX10_leastGrid 22 = .ok (.getfield 41, 3) := by decide +kernel
theorem dX10_leastGrid_25 : decode cX10_leastGrid 25 = .ok (.iload_n 1, 1) := by decide +kernel
theorem dX10_leastGrid_26 : decode cX10_leastGrid 26 = .ok (.iaload, 1) := by decide +kernel
theorem dX10_leastGrid_27 : decode cX10_leastGrid 27 = .ok (.if_icmp .ge 43, 3) := by decide +kernel
theorem dX10_leastGrid_30 : decode cX10_leastGrid 30 = .ok (.aload_n 0, 1) := by decide +kernel
theorem dX10_leastGrid_31 : decode cX10_leastGrid 31 = .ok (.getfield 25, 3) := by decide +kernel
theorem dX10_leastGrid_34 : decode cX10_leastGrid 34 = .ok (.sipush 300, 3) := by decide +kernel
theorem dX10_leastGrid_37 : decode cX10_leastGrid 37 = .ok (.iload_n 1, 1) := by decide +kernel
theorem dX10_leastGrid_38 : decode cX10_leastGrid 38 = .ok (.imul, 1) := by decide +kernel
theorem dX10_leastGrid_39 : decode cX10_leastGrid 39 = .ok (.iload 4, 2) := by decide +kernel
theorem dX10_leastGrid_41 : decode cX10_leastGrid 41 = .ok (.iadd, 1) := by decide +kernel
theorem dX10_leastGrid_42 : decode cX10_leastGrid 42 = .ok (.laload, 1) := by decide +kernel
theorem dX10_leastGrid_43 : decode cX10_leastGrid 43 = .ok (.ldc2_w 138, 3) := by decide +kernel
theorem dX10_leastGrid_46 : decode cX10_leastGrid 46 = .ok (.iconst 1, 1) := by decide +kernel
theorem dX10_leastGrid_47 : decode cX10_leastGrid 47 = .ok (.invokestatic 186, 3) := by decide +kernel
theorem dX10_leastGrid_50 : decode cX10_leastGrid 50 = .ok (.lstore 5, 2) := by decide +kernel
theorem dX10_leastGrid_52 : decode cX10_leastGrid 52 = .ok (.lload_n 2, 1) := by decide +kernel
theorem dX10_leastGrid_53 : decode cX10_leastGrid 53 = .ok (.lload_n 2, 1) := by decide +kernel
theorem dX10_leastGrid_54 : decode cX10_leastGrid 54 = .ok (.lload 5, 2) := by decide +kernel
theorem dX10_leastGrid_56 : decode cX10_leastGrid 56 = .ok (.invokestatic 180, 3) := by decide +kernel
theorem dX10_leastGrid_59 : decode cX10_leastGrid 59 = .ok (.ldiv, 1) := by decide +kernel
theorem dX10_leastGrid_60 : decode cX10_leastGrid 60 = .ok (.lload 5, 2) := by decide +kernel
theorem dX10_leastGrid_62 : decode cX10_leastGrid 62 = .ok (.lmul, 1) := by decide +kernel
theorem dX10_leastGrid_63 : decode cX10_leastGrid 63 = .ok (.lstore_n 2, 1) := by decide +kernel
theorem dX10_leastGrid_64 : decode cX10_leastGrid 64 = .ok (.iinc 4 1, 3) := by decide +kernel
theorem dX10_leastGrid_67 : decode cX10_leastGrid 67 = .ok (.goto (-48), 3) := by decide +kernel
theorem dX10_leastGrid_70 : decode cX10_leastGrid 70 = .ok (.lload_n 2, 1) := by decide +kernel
theorem dX10_leastGrid_71 : decode cX10_leastGrid 71 = .ok (.ldc2_w 212, 3) := by decide +kernel
theorem dX10_leastGrid_74 : decode cX10_leastGrid 74 = .ok (.lcmp, 1) := by decide +kernel
theorem dX10_leastGrid_75 : decode cX10_leastGrid 75 = .ok (.ifCond .gt 8, 3) := by decide +kernel
theorem dX10_leastGrid_78 : decode cX10_leastGrid 78 = .ok (.lload_n 2, 1) := by decide +kernel
theorem dX10_leastGrid_79 : decode cX10_leastGrid 79 = .ok (.l2i, 1) := by decide +kernel
theorem dX10_leastGrid_80 : decode cX10_leastGrid 80 = .ok (.goto 5, 3) := by decide +kernel
theorem dX10_leastGrid_83 : decode cX10_leastGrid 83 = .ok (.bipush (-9), 2) := by decide +kernel
theorem dX10_leastGrid_85 : decode cX10_leastGrid 85 = .ok (.ireturn, 1) := by decide +kernel
theorem dX10_startsAll_0 : decode cX10_startsAll 0 = .ok (.iconst 0, 1) := by decide +kernel
theorem dX10_startsAll_1 : decode cX10_startsAll 1 = .ok (.istore_n 1, 1) := by decide +kernel
theorem dX10_startsAll_2 : decode cX10_startsAll 2 = .ok (.iload_n 1, 1) := by decide +kernel
theorem dX10_startsAll_3 : decode cX10_startsAll 3 = .ok (.iconst 4, 1) := by decide +kernel
theorem dX10_startsAll_4 : decode cX10_startsAll 4 = .ok (.if_icmp .ge 21, 3) := by decide +kernel
theorem dX10_startsAll_7 : decode cX10_startsAll 7 = .ok (.aload_n 0, 1) := by decide +kernel
theorem dX10_startsAll_8 : decode cX10_startsAll 8 = .ok (.iload_n 1, 1) := by decide +kernel
theorem dX10_startsAll_9 : decode cX10_startsAll 9 = .ok (.invokevirtual 174, 3) := by decide +kernel
theorem dX10_startsAll_12 : decode cX10_startsAll 12 = .ok (.aload_n 0, 1) := by decide +kernel
theorem dX10_startsAll_13 : decode cX10_startsAll 13 = .ok (.getfield 69, 3) := by decide +kernel
theorem dX10_startsAll_16 : decode cX10_startsAll 16 = .ok (.iload_n 1, 1) := by decide +kernel
theorem dX10_startsAll_17 : decode cX10_startsAll 17 = .ok (.iconst 0, 1) := by decide +kernel
theorem dX10_startsAll_18 : decode cX10_startsAll 18 = .ok (.iastore, 1) := by decide +kernel
theorem dX10_startsAll_19 : decode cX10_startsAll 19 = .ok (.iinc 1 1, 3) := by decide +kernel
theorem dX10_startsAll_22 : decode cX10_startsAll 22 = .ok (.goto (-20), 3) := by decide +kernel
theorem dX10_startsAll_25 : decode cX10_startsAll 25 = .ok (.return_, 1) := by decide +kernel
theorem dX10_nextTime_0 : decode cX10_nextTime 0 = .ok (.ldc2_w 184, 3) := by decide +kernel
theorem dX10_nextTime_3 : decode cX10_nextTime 3 = .ok (.lstore_n 1, 1) := by decide +kernel
theorem dX10_nextTime_4 : decode cX10_nextTime 4 = .ok (.iconst 0, 1) := by decide +kernel
theorem dX10_nextTime_5 : decode cX10_nextTime 5 = .ok (.istore_n 3, 1) := by decide +kernel
theorem dX10_nextTime_6 : decode cX10_nextTime 6 = .ok (.iload_n 3, 1) := by decide +kernel
theorem dX10_nextTime_7 : decode cX10_nextTime 7 = .ok (.iconst 4, 1) := by decide +kernel
theorem dX10_nextTime_8 : decode cX10_nextTime 8 = .ok (.if_icmp .ge 76, 3) := by decide +kernel
theorem dX10_nextTime_11 : decode cX10_nextTime 11 = .ok (.aload_n 0, 1) := by decide +kernel
theorem dX10_nextTime_12 : decode cX10_nextTime 12 = .ok (.getfield 69, 3) := by decide +kernel
theorem dX10_nextTime_15 : decode cX10_nextTime 15 = .ok (.iload_n 3, 1) := by decide +kernel
theorem dX10_nextTime_16 : decode cX10_nextTime 16 = .ok (.iaload, 1) := by decide +kernel
theorem dX10_nextTime_17 : decode cX10_nextTime 17 = .ok (.aload_n 0, 1) := by decide +kernel
theorem dX10_nextTime_18 : decode cX10_nextTime 18 = .ok (.getfield 41, 3) := by decide +kernel
theorem dX10_nextTime_21 : decode cX10_nextTime 21 = .ok (.iload_n 3, 1) := by decide +kernel
theorem dX10_nextTime_22 : decode cX10_nextTime 22 = .ok (.iaload, 1) := by decide +kernel
theorem dX10_nextTime_23 : decode cX10_nextTime 23 = .ok (.if_icmp .ge 23, 3) := by decide +kernel
theorem dX10_nextTime_26 : decode cX10_nextTime 26 = .ok (.aload_n 0, 1) := by decide +kernel
theorem dX10_nextTime_27 : decode cX10_nextTime 27 = .ok (.getfield 25, 3) := by decide +kernel
theorem dX10_nextTime_30 : decode cX10_nextTime 30 = .ok (.sipush 300, 3) := by decide +kernel
theorem dX10_nextTime_33 : decode cX10_nextTime 33 = .ok (.iload_n 3, 1) := by decide +kernel
theorem dX10_nextTime_34 : decode cX10_nextTime 34 = .ok (.imul, 1) := by decide +kernel
theorem dX10_nextTime_35 : decode cX10_nextTime 35 = .ok (.aload_n 0, 1) := by decide +kernel
theorem dX10_nextTime_36 : decode cX10_nextTime 36 = .ok (.getfield 69, 3) := by decide +kernel
theorem dX10_nextTime_39 : decode cX10_nextTime 39 = .ok (.iload_n 3, 1) := by decide +kernel
theorem dX10_nextTime_40 : decode cX10_nextTime 40 = .ok (.iaload, 1) := by decide +kernel
theorem dX10_nextTime_41 : decode cX10_nextTime 41 = .ok (.iadd, 1) := by decide +kernel
theorem dX10_nextTime_42 : decode cX10_nextTime 42 = .ok (.laload, 1) := by decide +kernel
theorem dX10_nextTime_43 : decode cX10_nextTime 43 = .ok (.goto 6, 3) := by decide +kernel
theorem dX10_nextTime_46 : decode cX10_nextTime 46 = .ok (.ldc2_w 184, 3) := by decide +kernel
theorem dX10_nextTime_49 : decode cX10_nextTime 49 = .ok (.lstore 4, 2) := by decide +kernel
theorem dX10_nextTime_51 : decode cX10_nextTime 51 = .ok (.lload 4, 2) := by decide +kernel
theorem dX10_nextTime_53 : decode cX10_nextTime 53 = .ok (.lconst 0, 1) := by decide +kernel
theorem dX10_nextTime_54 : decode cX10_nextTime 54 = .ok (.lcmp, 1) := by decide +kernel
theorem dX10_nextTime_55 : decode cX10_nextTime 55 = .ok (.ifCond .lt 21, 3) := by decide +kernel
theorem dX10_nextTime_58 : decode cX10_nextTime 58 = .ok (.lload_n 1, 1) := by decide +kernel
theorem dX10_nextTime_59 : decode cX10_nextTime 59 = .ok (.lconst 0, 1) := by decide +kernel
theorem dX10_nextTime_60 : decode cX10_nextTime 60 = .ok (.lcmp, 1) := by decide +kernel
theorem dX10_nextTime_61 : decode cX10_nextTime 61 = .ok (.ifCond .lt 10, 3) := by decide +kernel
theorem dX10_nextTime_64 : decode cX10_nextTime 64 = .ok (.lload 4, 2) := by decide +kernel
theorem dX10_nextTime_66 : decode cX10_nextTime 66 = .ok (.lload_n 1, 1) := by decide +kernel
theorem dX10_nextTime_67 : decode cX10_nextTime 67 = .ok (.lcmp, 1) := by decide +kernel
theorem dX10_nextTime_68 : decode cX10_nextTime 68 = .ok (.ifCond .ge 8, 3) := by decide +kernel
theorem dX10_nextTime_71 : decode cX10_nextTime 71 = .ok (.lload 4, 2) := by decide +kernel
theorem dX10_nextTime_73 : decode cX10_nextTime 73 = .ok (.goto 4, 3) := by decide +kernel
theorem dX10_nextTime_76 : decode cX10_nextTime 76 = .ok (.lload_n 1, 1) := by decide +kernel
theorem dX10_nextTime_77 : decode cX10_nextTime 77 = .ok (.lstore_n 1, 1) := by decide +kernel
theorem dX10_nextTime_78 : decode cX10_nextTime 78 = .ok (.iinc 3 1, 3) := by decide +kernel
theorem dX10_nextTime_81 : decode cX10_nextTime 81 = .ok (.goto (-75), 3) := by decide +kernel
theorem dX10_nextTime_84 : decode cX10_nextTime 84 = .ok (.aload_n 0, 1) := by decide +kernel
theorem dX10_nextTime_85 : decode cX10_nextTime 85 = .ok (.iconst 0, 1) := by decide +kernel
theorem dX10_nextTime_86 : decode cX10_nextTime 86 = .ok (.putfield 214, 3) := by decide +kernel
theorem dX10_nextTime_89 : decode cX10_nextTime 89 = .ok (.iconst 0, 1) := by decide +kernel
theorem dX10_nextTime_90 : decode cX10_nextTime 90 = .ok (.istore_n 3, 1) := by decide +kernel
theorem dX10_nextTime_91 : decode cX10_nextTime 91 = .ok (.iload_n 3, 1) := by decide +kernel
theorem dX10_nextTime_92 : decode cX10_nextTime 92 = .ok (.iconst 4, 1) := by decide +kernel
theorem dX10_nextTime_93 : decode cX10_nextTime 93 = .ok (.if_icmp .ge 74, 3) := by decide +kernel
theorem dX10_nextTime_96 : decode cX10_nextTime 96 = .ok (.lload_n 1, 1) := by decide +kernel
theorem dX10_nextTime_97 : decode cX10_nextTime 97 = .ok (.lconst 0, 1) := by decide +kernel
theorem dX10_nextTime_98 : decode cX10_nextTime 98 = .ok (.lcmp, 1) := by decide +kernel
theorem dX10_nextTime_99 : decode cX10_nextTime 99 = .ok (.ifCond .lt 68, 3) := by decide +kernel
theorem dX10_nextTime_102 : decode cX10_nextTime 102 = .ok (.aload_n 0, 1) := by decide +kernel
theorem dX10_nextTime_103 : decode cX10_nextTime 103 = .ok (.getfield 69, 3) := by decide +kernel
theorem dX10_nextTime_106 : decode cX10_nextTime 106 = .ok (.iload_n 3, 1) := by decide +kernel
theorem dX10_nextTime_107 : decode cX10_nextTime 107 = .ok (.iaload, 1) := by decide +kernel
theorem dX10_nextTime_108 : decode cX10_nextTime 108 = .ok (.aload_n 0, 1) := by decide +kernel
theorem dX10_nextTime_109 : decode cX10_nextTime 109 = .ok (.getfield 41, 3) := by decide +kernel
theorem dX10_nextTime_112 : decode cX10_nextTime 112 = .ok (.iload_n 3, 1) := by decide +kernel
theorem dX10_nextTime_113 : decode cX10_nextTime 113 = .ok (.iaload, 1) := by decide +kernel
theorem dX10_nextTime_114 : decode cX10_nextTime 114 = .ok (.if_icmp .ge 47, 3) := by decide +kernel
theorem dX10_nextTime_117 : decode cX10_nextTime 117 = .ok (.aload_n 0, 1) := by decide +kernel
theorem dX10_nextTime_118 : decode cX10_nextTime 118 = .ok (.getfield 25, 3) := by decide +kernel
theorem dX10_nextTime_121 : decode cX10_nextTime 121 = .ok (.sipush 300, 3) := by decide +kernel
theorem dX10_nextTime_124 : decode cX10_nextTime 124 = .ok (.iload_n 3, 1) := by decide +kernel
theorem dX10_nextTime_125 : decode cX10_nextTime 125 = .ok (.imul, 1) := by decide +kernel
theorem dX10_nextTime_126 : decode cX10_nextTime 126 = .ok (.aload_n 0, 1) := by decide +kernel
theorem dX10_nextTime_127 : decode cX10_nextTime 127 = .ok (.getfield 69, 3) := by decide +kernel
theorem dX10_nextTime_130 : decode cX10_nextTime 130 = .ok (.iload_n 3, 1) := by decide +kernel
theorem dX10_nextTime_131 : decode cX10_nextTime 131 = .ok (.iaload, 1) := by decide +kernel
theorem dX10_nextTime_132 : decode cX10_nextTime 132 = .ok (.iadd, 1) := by decide +kernel
theorem dX10_nextTime_133 : decode cX10_nextTime 133 = .ok (.laload, 1) := by decide +kernel
theorem dX10_nextTime_134 : decode cX10_nextTime 134 = .ok (.lload_n 1, 1) := by decide +kernel
theorem dX10_nextTime_135 : decode cX10_nextTime 135 = .ok (.lcmp, 1) := by decide +kernel
theorem dX10_nextTime_136 : decode cX10_nextTime 136 = .ok (.ifCond .ne 25, 3) := by decide +kernel
theorem dX10_nextTime_139 : decode cX10_nextTime 139 = .ok (.aload_n 0, 1) := by decide +kernel
theorem dX10_nextTime_140 : decode cX10_nextTime 140 = .ok (.dup, 1) := by decide +kernel
theorem dX10_nextTime_141 : decode cX10_nextTime 141 = .ok (.getfield 214, 3) := by decide +kernel
theorem dX10_nextTime_144 : decode cX10_nextTime 144 = .ok (.iconst 1, 1) := by decide +kernel
theorem dX10_nextTime_145 : decode cX10_nextTime 145 = .ok (.iload_n 3, 1) := by decide +kernel
theorem dX10_nextTime_146 : decode cX10_nextTime 146 = .ok (.ishl, 1) := by decide +kernel
theorem dX10_nextTime_147 : decode cX10_nextTime 147 = .ok (.ior, 1) := by decide +kernel
theorem dX10_nextTime_148 : decode cX10_nextTime 148 = .ok (.putfield 214, 3) := by decide +kernel
theorem dX10_nextTime_151 : decode cX10_nextTime 151 = .ok (.aload_n 0, 1) := by decide +kernel
theorem dX10_nextTime_152 : decode cX10_nextTime 152 = .ok (.getfield 69, 3) := by decide +kernel
theorem dX10_nextTime_155 : decode cX10_nextTime 155 = .ok (.iload_n 3, 1) := by decide +kernel
theorem dX10_nextTime_156 : decode cX10_nextTime 156 = .ok (.dup2, 1) := by decide +kernel
theorem dX10_nextTime_157 : decode cX10_nextTime 157 = .ok (.iaload, 1) := by decide +kernel
theorem dX10_nextTime_158 : decode cX10_nextTime 158 = .ok (.iconst 1, 1) := by decide +kernel
theorem dX10_nextTime_159 : decode cX10_nextTime 159 = .ok (.iadd, 1) := by decide +kernel
theorem dX10_nextTime_160 : decode cX10_nextTime 160 = .ok (.iastore, 1) := by decide +kernel
theorem dX10_nextTime_161 : decode cX10_nextTime 161 = .ok (.iinc 3 1, 3) := by decide +kernel
theorem dX10_nextTime_164 : decode cX10_nextTime 164 = .ok (.goto (-73), 3) := by decide +kernel
theorem dX10_nextTime_167 : decode cX10_nextTime 167 = .ok (.lload_n 1, 1) := by decide +kernel
theorem dX10_nextTime_168 : decode cX10_nextTime 168 = .ok (.lreturn, 1) := by decide +kernel
theorem dX10_times_0 : decode cX10_times 0 = .ok (.aload_n 0, 1) := by decide +kernel
theorem dX10_times_1 : decode cX10_times 1 = .ok (.invokevirtual 217, 3) := by decide +kernel
theorem dX10_times_4 : decode cX10_times 4 = .ok (.iconst 0, 1) := by decide +kernel
theorem dX10_times_5 : decode cX10_times 5 = .ok (.istore_n 1, 1) := by decide +kernel
theorem dX10_times_6 : decode cX10_times 6 = .ok (.aload_n 0, 1) := by decide +kernel
theorem dX10_times_7 : decode cX10_times 7 = .ok (.invokevirtual 220, 3) := by decide +kernel
theorem dX10_times_10 : decode cX10_times 10 = .ok (.lconst 0, 1) := by decide +kernel
theorem dX10_times_11 : decode cX10_times 11 = .ok (.lcmp, 1) := by decide +kernel
theorem dX10_times_12 : decode cX10_times 12 = .ok (.ifCond .lt 9, 3) := by decide +kernel
theorem dX10_times_15 : decode cX10_times 15 = .ok (.iinc 1 1, 3) := by decide +kernel
theorem dX10_times_18 : decode cX10_times 18 = .ok (.goto (-12), 3) := by decide +kernel
theorem dX10_times_21 : decode cX10_times 21 = .ok (.iload_n 1, 1) := by decide +kernel
theorem dX10_times_22 : decode cX10_times 22 = .ok (.ireturn, 1) := by decide +kernel
theorem dX10_time_0 : decode cX10_time 0 = .ok (.iload_n 1, 1) := by decide +kernel
theorem dX10_time_1 : decode cX10_time 1 = .ok (.ifCond .lt 12, 3) := by decide +kernel
theorem dX10_time_4 : decode cX10_time 4 = .ok (.iload_n 2, 1) := by decide +kernel
theorem dX10_time_5 : decode cX10_time 5 = .ok (.iconst 0, 1) := by decide +kernel
theorem dX10_time_6 : decode cX10_time 6 = .ok (.iconst 2, 1) := by decide +kernel
theorem dX10_time_7 : decode cX10_time 7 = .ok (.invokestatic 76, 3) := by decide +kernel
theorem dX10_time_10 : decode cX10_time 10 = .ok (.ifCond .ne 7, 3) := by decide +kernel
theorem dX10_time_13 : decode cX10_time 13 = .ok (.ldc2_w 184, 3) := by decide +kernel
theorem dX10_time_16 : decode cX10_time 16 = .ok (.lreturn, 1) := by decide +kernel
theorem dX10_time_17 : decode cX10_time 17 = .ok (.aload_n 0, 1) := by decide +kernel
theorem dX10_time_18 : decode cX10_time 18 = .ok (.invokevirtual 217, 3) := by decide +kernel
theorem dX10_time_21 : decode cX10_time 21 = .ok (.aload_n 0, 1) := by decide +kernel
theorem dX10_time_22 : decode cX10_time 22 = .ok (.invokevirtual 220, 3) := by decide +kernel
theorem dX10_time_25 : decode cX10_time 25 = .ok (.lstore_n 3, 1) := by decide +kernel
theorem dX10_time_26 : decode cX10_time 26 = .ok (.iconst 0, 1) := by decide +kernel
theorem dX10_time_27 : decode cX10_time 27 = .ok (.istore 5, 2) := by decide +kernel
theorem dX10_time_29 : decode cX10_time 29 = .ok (.iload 5, 2) := by decide +kernel
theorem dX10_time_31 : decode cX10_time 31 = .ok (.iload_n 1, 1) := by decide +kernel
theorem dX10_time_32 : decode cX10_time 32 = .ok (.if_icmp .ge 20, 3) := by decide +kernel
theorem dX10_time_35 : decode cX10_time 35 = .ok (.lload_n 3, 1) := by decide +kernel
theorem dX10_time_36 : decode cX10_time 36 = .ok (.lconst 0, 1) := by decide +kernel
theorem dX10_time_37 : decode cX10_time 37 = .ok (.lcmp, 1) := by decide +kernel
theorem dX10_time_38 : decode cX10_time 38 = .ok (.ifCond .lt 14, 3) := by decide +kernel
theorem dX10_time_41 : decode cX10_time 41 = .ok (.aload_n 0, 1) := by decide +kernel
theorem dX10_time_42 : decode cX10_time 42 = .ok (.invokevirtual 220, 3) := by decide +kernel
theorem dX10_time_45 : decode cX10_time 45 = .ok (.lstore_n 3, 1) := by decide +kernel
theorem dX10_time_46 : decode cX10_time 46 = .ok (.iinc 5 1, 3) := by decide +kernel
theorem dX10_time_49 : decode cX10_time 49 = .ok (.goto (-20), 3) := by decide +kernel
theorem dX10_time_52 : decode cX10_time 52 = .ok (.lload_n 3, 1) := by decide +kernel
theorem dX10_time_53 : decode cX10_time 53 = .ok (.lconst 0, 1) := by decide +kernel
theorem dX10_time_54 : decode cX10_time 54 = .ok (.lcmp, 1) := by decide +kernel
theorem dX10_time_55 : decode cX10_time 55 = .ok (.ifCond .ge 9, 3) := by decide +kernel
theorem dX10_time_58 : decode cX10_time 58 = .ok (.ldc2_w 184, 3) := by decide +kernel
theorem dX10_time_61 : decode cX10_time 61 = .ok (.goto 24, 3) := by decide +kernel
theorem dX10_time_64 : decode cX10_time 64 = .ok (.iload_n 2, 1) := by decide +kernel
theorem dX10_time_65 : decode cX10_time 65 = .ok (.iconst 2, 1) := by decide +kernel
theorem dX10_time_66 : decode cX10_time 66 = .ok (.if_icmp .ne 11, 3) := by decide +kernel
theorem dX10_time_69 : decode cX10_time 69 = .ok (.aload_n 0, 1) := by decide +kernel
theorem dX10_time_70 : decode cX10_time 70 = .ok (.getfield 214, 3) := by decide +kernel
theorem dX10_time_73 : decode cX10_time 73 = .ok (.i2l, 1) := by decide +kernel
theorem dX10_time_74 : decode cX10_time 74 = .ok (.goto 11, 3) := by decide +kernel
theorem dX10_time_77 : decode cX10_time 77 = .ok (.lload_n 3, 1) := by decide +kernel
theorem dX10_time_78 : decode cX10_time 78 = .ok (.ldc2_w 138, 3) := by decide +kernel
theorem dX10_time_81 : decode cX10_time 81 = .ok (.iload_n 2, 1) := by decide +kernel
theorem dX10_time_82 : decode cX10_time 82 = .ok (.invokestatic 186, 3) := by decide +kernel
theorem dX10_time_85 : decode cX10_time 85 = .ok (.lreturn, 1) := by decide +kernel
theorem dX10_cycleOf_0 : decode cX10_cycleOf 0 = .ok (.aload_n 0, 1) := by decide +kernel
theorem dX10_cycleOf_1 : decode cX10_cycleOf 1 = .ok (.iload_n 1, 1) := by decide +kernel
theorem dX10_cycleOf_2 : decode cX10_cycleOf 2 = .ok (.invokevirtual 174, 3) := by decide +kernel
theorem dX10_cycleOf_5 : decode cX10_cycleOf 5 = .ok (.aload_n 0, 1) := by decide +kernel
theorem dX10_cycleOf_6 : decode cX10_cycleOf 6 = .ok (.iload_n 2, 1) := by decide +kernel
theorem dX10_cycleOf_7 : decode cX10_cycleOf 7 = .ok (.invokevirtual 174, 3) := by decide +kernel
theorem dX10_cycleOf_10 : decode cX10_cycleOf 10 = .ok (.aload_n 0, 1) := by decide +kernel
theorem dX10_cycleOf_11 : decode cX10_cycleOf 11 = .ok (.getfield 44, 3) := by decide +kernel
theorem dX10_cycleOf_14 : decode cX10_cycleOf 14 = .ok (.iload_n 1, 1) := by decide +kernel
theorem dX10_cycleOf_15 : decode cX10_cycleOf 15 = .ok (.laload, 1) := by decide +kernel
theorem dX10_cycleOf_16 : decode cX10_cycleOf 16 = .ok (.lconst 0, 1) := by decide +kernel
theorem dX10_cycleOf_17 : decode cX10_cycleOf 17 = .ok (.lcmp, 1) := by decide +kernel
theorem dX10_cycleOf_18 : decode cX10_cycleOf 18 = .ok (.ifCond .eq 14, 3) := by decide +kernel
theorem dX10_cycleOf_21 : decode cX10_cycleOf 21 = .ok (.aload_n 0, 1) := by decide +kernel
theorem dX10_cycleOf_22 : decode cX10_cycleOf 22 = .ok (.getfield 44, 3) := by decide +kernel
theorem dX10_cycleOf_25 : decode cX10_cycleOf 25 = .ok (.iload_n 2, 1) := by decide +kernel
theorem dX10_cycleOf_26 : decode cX10_cycleOf 26 = .ok (.laload, 1) := by decide +kernel
theorem dX10_cycleOf_27 : decode cX10_cycleOf 27 = .ok (.lconst 0, 1) := by decide +kernel
theorem dX10_cycleOf_28 : decode cX10_cycleOf 28 = .ok (.lcmp, 1) := by decide +kernel
theorem dX10_cycleOf_29 : decode cX10_cycleOf 29 = .ok (.ifCond .ne 7, 3) := by decide +kernel
theorem dX10_cycleOf_32 : decode cX10_cycleOf 32 = .ok (.ldc2_w 223, 3) := by decide +kernel
theorem dX10_cycleOf_35 : decode cX10_cycleOf 35 = .ok (.lreturn, 1) := by decide +kernel
theorem dX10_cycleOf_36 : decode cX10_cycleOf 36 = .ok (.aload_n 0, 1) := by decide +kernel
theorem dX10_cycleOf_37 : decode cX10_cycleOf 37 = .ok (.getfield 44, 3) := by decide +kernel
theorem dX10_cycleOf_40 : decode cX10_cycleOf 40 = .ok (.iload_n 1, 1) := by decide +kernel
theorem dX10_cycleOf_41 : decode cX10_cycleOf 41 = .ok (.laload, 1) := by decide +kernel
theorem dX10_cycleOf_42 : decode cX10_cycleOf 42 = .ok (.aload_n 0, 1) := by decide +kernel
theorem dX10_cycleOf_43 : decode cX10_cycleOf 43 = .ok (.getfield 44, 3) := by decide +kernel
theorem dX10_cycleOf_46 : decode cX10_cycleOf 46 = .ok (.iload_n 1, 1) := by decide +kernel
theorem dX10_cycleOf_47 : decode cX10_cycleOf 47 = .ok (.laload, 1) := by decide +kernel
theorem dX10_cycleOf_48 : decode cX10_cycleOf 48 = .ok (.aload_n 0, 1) := by decide +kernel
theorem dX10_cycleOf_49 : decode cX10_cycleOf 49 = .ok (.getfield 44, 3) := by decide +kernel
theorem dX10_cycleOf_52 : decode cX10_cycleOf 52 = .ok (.iload_n 2, 1) := by decide +kernel
theorem dX10_cycleOf_53 : decode cX10_cycleOf 53 = .ok (.laload, 1) := by decide +kernel
theorem dX10_cycleOf_54 : decode cX10_cycleOf 54 = .ok (.invokestatic 180, 3) := by decide +kernel
theorem dX10_cycleOf_57 : decode cX10_cycleOf 57 = .ok (.ldiv, 1) := by decide +kernel
theorem dX10_cycleOf_58 : decode cX10_cycleOf 58 = .ok (.lstore_n 3, 1) := by decide +kernel
theorem dX10_cycleOf_59 : decode cX10_cycleOf 59 = .ok (.lload_n 3, 1) := by decide +kernel
theorem dX10_cycleOf_60 : decode cX10_cycleOf 60 = .ok (.ldc2_w 225, 3) := by decide +kernel
theorem dX10_cycleOf_63 : decode cX10_cycleOf 63 = .ok (.aload_n 0, 1) := by decide +kernel
theorem dX10_cycleOf_64 : decode cX10_cycleOf 64 = .ok (.getfield 44, 3) := by decide +kernel
theorem dX10_cycleOf_67 : decode cX10_cycleOf 67 = .ok (.iload_n 2, 1) := by decide +kernel
theorem dX10_cycleOf_68 : decode cX10_cycleOf 68 = .ok (.laload, 1) := by decide +kernel
theorem dX10_cycleOf_69 : decode cX10_cycleOf 69 = .ok (.ldiv, 1) := by decide +kernel
theorem dX10_cycleOf_70 : decode cX10_cycleOf 70 = .ok (.lcmp, 1) := by decide +kernel
theorem dX10_cycleOf_71 : decode cX10_cycleOf 71 = .ok (.ifCond .le 9, 3) := by decide +kernel
theorem dX10_cycleOf_74 : decode cX10_cycleOf 74 = .ok (.ldc2_w 227, 3) := by decide +kernel
theorem dX10_cycleOf_77 : decode cX10_cycleOf 77 = .ok (.goto 11, 3) := by decide +kernel
theorem dX10_cycleOf_80 : decode cX10_cycleOf 80 = .ok (.lload_n 3, 1) := by decide +kernel
theorem dX10_cycleOf_81 : decode cX10_cycleOf 81 = .ok (.aload_n 0, 1) := by decide +kernel
theorem dX10_cycleOf_82 : decode cX10_cycleOf 82 = .ok (.getfield 44, 3) := by decide +kernel
theorem dX10_cycleOf_85 : decode cX10_cycleOf 85 = .ok (.iload_n 2, 1) := by decide +kernel
theorem dX10_cycleOf_86 : decode cX10_cycleOf 86 = .ok (.laload, 1) := by decide +kernel
theorem dX10_cycleOf_87 : decode cX10_cycleOf 87 = .ok (.lmul, 1) := by decide +kernel
theorem dX10_cycleOf_88 : decode cX10_cycleOf 88 = .ok (.lreturn, 1) := by decide +kernel
theorem dX10_cycle_0 : decode cX10_cycle 0 = .ok (.iload_n 1, 1) := by decide +kernel
theorem dX10_cycle_1 : decode cX10_cycle 1 = .ok (.invokestatic 163, 3) := by decide +kernel
theorem dX10_cycle_4 : decode cX10_cycle 4 = .ok (.ifCond .eq 19, 3) := by decide +kernel
theorem dX10_cycle_7 : decode cX10_cycle 7 = .ok (.iload_n 2, 1) := by decide +kernel
theorem dX10_cycle_8 : decode cX10_cycle 8 = .ok (.invokestatic 163, 3) := by decide +kernel
theorem dX10_cycle_11 : decode cX10_cycle 11 = .ok (.ifCond .eq 12, 3) := by decide +kernel
theorem dX10_cycle_14 : decode cX10_cycle 14 = .ok (.iload_n 3, 1) := by decide +kernel
theorem dX10_cycle_15 : decode cX10_cycle 15 = .ok (.iconst 0, 1) := by decide +kernel
theorem dX10_cycle_16 : decode cX10_cycle 16 = .ok (.iconst 1, 1) := by decide +kernel
theorem dX10_cycle_17 : decode cX10_cycle 17 = .ok (.invokestatic 76, 3) := by decide +kernel
theorem dX10_cycle_20 : decode cX10_cycle 20 = .ok (.ifCond .ne 7, 3) := by decide +kernel
theorem dX10_cycle_23 : decode cX10_cycle 23 = .ok (.ldc2_w 184, 3) := by decide +kernel
theorem dX10_cycle_26 : decode cX10_cycle 26 = .ok (.lreturn, 1) := by decide +kernel
theorem dX10_cycle_27 : decode cX10_cycle 27 = .ok (.aload_n 0, 1) := by decide +kernel
theorem dX10_cycle_28 : decode cX10_cycle 28 = .ok (.iload_n 1, 1) := by decide +kernel
theorem dX10_cycle_29 : decode cX10_cycle 29 = .ok (.iload_n 2, 1) := by decide +kernel
theorem dX10_cycle_30 : decode cX10_cycle 30 = .ok (.invokevirtual 229, 3) := by decide +kernel
theorem dX10_cycle_33 : decode cX10_cycle 33 = .ok (.lstore 4, 2) := by decide +kernel
theorem dX10_cycle_35 : decode cX10_cycle 35 = .ok (.lload 4, 2) := by decide +kernel
theorem dX10_cycle_37 : decode cX10_cycle 37 = .ok (.lconst 0, 1) := by decide +kernel
theorem dX10_cycle_38 : decode cX10_cycle 38 = .ok (.lcmp, 1) := by decide +kernel
theorem dX10_cycle_39 : decode cX10_cycle 39 = .ok (.ifCond .ge 8, 3) := by decide +kernel
theorem dX10_cycle_42 : decode cX10_cycle 42 = .ok (.lload 4, 2) := by decide +kernel
theorem dX10_cycle_44 : decode cX10_cycle 44 = .ok (.goto 12, 3) := by decide +kernel
theorem dX10_cycle_47 : decode cX10_cycle 47 = .ok (.lload 4, 2) := by decide +kernel
theorem dX10_cycle_49 : decode cX10_cycle 49 = .ok (.ldc2_w 138, 3) := by decide +kernel
theorem dX10_cycle_52 : decode cX10_cycle 52 = .ok (.iload_n 3, 1) := by decide +kernel
theorem dX10_cycle_53 : decode cX10_cycle 53 = .ok (.invokestatic 186, 3) := by decide +kernel
theorem dX10_cycle_56 : decode cX10_cycle 56 = .ok (.lreturn, 1) := by decide +kernel
theorem dX10_meets_0 : decode cX10_meets 0 = .ok (.iload_n 1, 1) := by decide +kernel
theorem dX10_meets_1 : decode cX10_meets 1 = .ok (.invokestatic 163, 3) := by decide +kernel
theorem dX10_meets_4 : decode cX10_meets 4 = .ok (.ifCond .eq 10, 3) := by decide +kernel
theorem dX10_meets_7 : decode cX10_meets 7 = .ok (.iload_n 2, 1) := by decide +kernel
theorem dX10_meets_8 : decode cX10_meets 8 = .ok (.invokestatic 163, 3) := by decide +kernel
theorem dX10_meets_11 : decode cX10_meets 11 = .ok (.ifCond .ne 5, 3) := by decide +kernel
theorem dX10_meets_14 : decode cX10_meets 14 = .ok (.iconst (-1), 1) := by decide +kernel
theorem dX10_meets_15 : decode cX10_meets 15 = .ok (.ireturn, 1) := by decide +kernel
theorem dX10_meets_16 : decode cX10_meets 16 = .ok (.aload_n 0, 1) := by decide +kernel
theorem dX10_meets_17 : decode cX10_meets 17 = .ok (.iload_n 1, 1) := by decide +kernel
theorem dX10_meets_18 : decode cX10_meets 18 = .ok (.iload_n 2, 1) := by decide +kernel
theorem dX10_meets_19 : decode cX10_meets 19 = .ok (.invokevirtual 229, 3) := by decide +kernel
theorem dX10_meets_22 : decode cX10_meets 22 = .ok (.lstore_n 3, 1) := by decide +kernel
theorem dX10_meets_23 : decode cX10_meets 23 = .ok (.lload_n 3, 1) := by decide +kernel
theorem dX10_meets_24 : decode cX10_meets 24 = .ok (.lconst 0, 1) := by decide +kernel
theorem dX10_meets_25 : decode cX10_meets 25 = .ok (.lcmp, 1) := by decide +kernel
theorem dX10_meets_26 : decode cX10_meets 26 = .ok (.ifCond .ge 6, 3) := by decide +kernel
theorem dX10_meets_29 : decode cX10_meets 29 = .ok (.lload_n 3, 1) := by decide +kernel
theorem dX10_meets_30 : decode cX10_meets 30 = .ok (.l2i, 1) := by decide +kernel
theorem dX10_meets_31 : decode cX10_meets 31 = .ok (.ireturn, 1) := by decide +kernel
theorem dX10_meets_32 : decode cX10_meets 32 = .ok (.iconst 0, 1) := by decide +kernel
theorem dX10_meets_33 : decode cX10_meets 33 = .ok (.istore 5, 2) := by decide +kernel
theorem dX10_meets_35 : decode cX10_meets 35 = .ok (.iconst 0, 1) := by decide +kernel
theorem dX10_meets_36 : decode cX10_meets 36 = .ok (.istore 6, 2) := by decide +kernel
theorem dX10_meets_38 : decode cX10_meets 38 = .ok (.iconst 0, 1) := by decide +kernel
theorem dX10_meets_39 : decode cX10_meets 39 = .ok (.istore 7, 2) := by decide +kernel
theorem dX10_meets_41 : decode cX10_meets 41 = .ok (.lconst 0, 1) := by decide +kernel
theorem dX10_meets_42 : decode cX10_meets 42 = .ok (.lstore 8, 2) := by decide +kernel
theorem dX10_meets_44 : decode cX10_meets 44 = .ok (.lconst 0, 1) := by decide +kernel
theorem dX10_meets_45 : decode cX10_meets 45 = .ok (.lstore 10, 2) := by decide +kernel
theorem dX10_meets_47 : decode cX10_meets 47 = .ok (.aload_n 0, 1) := by decide +kernel
theorem dX10_meets_48 : decode cX10_meets 48 = .ok (.getfield 41, 3) := by decide +kernel
theorem dX10_meets_51 : decode cX10_meets 51 = .ok (.iload_n 1, 1) := by decide +kernel
theorem dX10_meets_52 : decode cX10_meets 52 = .ok (.iaload, 1) := by decide +kernel
theorem dX10_meets_53 : decode cX10_meets 53 = .ok (.ifCond .le 195, 3) := by decide +kernel
theorem dX10_meets_56 : decode cX10_meets 56 = .ok (.aload_n 0, 1) := by decide +kernel
theorem dX10_meets_57 : decode cX10_meets 57 = .ok (.getfield 41, 3) := by decide +kernel
theorem dX10_meets_60 : decode cX10_meets 60 = .ok (.iload_n 2, 1) := by decide +kernel
theorem dX10_meets_61 : decode cX10_meets 61 = .ok (.iaload, 1) := by decide +kernel
theorem dX10_meets_62 : decode cX10_meets 62 = .ok (.ifCond .le 186, 3) := by decide +kernel
theorem dX10_meets_65 : decode cX10_meets 65 = .ok (.lload 8, 2) := by decide +kernel
theorem dX10_meets_67 : decode cX10_meets 67 = .ok (.lload_n 3, 1) := by decide +kernel
theorem dX10_meets_68 : decode cX10_meets 68 = .ok (.lcmp, 1) := by decide +kernel
theorem dX10_meets_69 : decode cX10_meets 69 = .ok (.ifCond .ge 179, 3) := by decide +kernel
theorem dX10_meets_72 : decode cX10_meets 72 = .ok (.lload 10, 2) := by decide +kernel
theorem dX10_meets_74 : decode cX10_meets 74 = .ok (.lload_n 3, 1) := by decide +kernel
theorem dX10_meets_75 : decode cX10_meets 75 = .ok (.lcmp, 1) := by decide +kernel
theorem dX10_meets_76 : decode cX10_meets 76 = .ok (.ifCond .ge 172, 3) := by decide +kernel
theorem dX10_meets_79 : decode cX10_meets 79 = .ok (.lload 8, 2) := by decide +kernel
theorem dX10_meets_81 : decode cX10_meets 81 = .ok (.aload_n 0, 1) := by decide +kernel
theorem dX10_meets_82 : decode cX10_meets 82 = .ok (.getfield 25, 3) := by decide +kernel
theorem dX10_meets_85 : decode cX10_meets 85 = .ok (.sipush 300, 3) := by decide +kernel
theorem dX10_meets_88 : decode cX10_meets 88 = .ok (.iload_n 1, 1) := by decide +kernel
theorem dX10_meets_89 : decode cX10_meets 89 = .ok (.imul, 1) := by decide +kernel
theorem dX10_meets_90 : decode cX10_meets 90 = .ok (.iload 6, 2) := by decide +kernel
theorem dX10_meets_92 : decode cX10_meets 92 = .ok (.iadd, 1) := by decide +kernel
theorem dX10_meets_93 : decode cX10_meets 93 = .ok (.laload, 1) := by decide +kernel
theorem dX10_meets_94 : decode cX10_meets 94 = .ok (.ladd, 1) := by decide +kernel
theorem dX10_meets_95 : decode cX10_meets 95 = .ok (.lstore 12, 2) := by decide +kernel
theorem dX10_meets_97 : decode cX10_meets 97 = .ok (.lload 10, 2) := by decide +kernel
theorem dX10_meets_99 : decode cX10_meets 99 = .ok (.aload_n 0, 1) := by decide +kernel
theorem dX10_meets_100 : decode cX10_meets 100 = .ok (.getfield 25, 3) := by decide +kernel
theorem dX10_meets_103 : decode cX10_meets 103 = .ok (.sipush 300, 3) := by decide +kernel
theorem dX10_meets_106 : decode cX10_meets 106 = .ok (.iload_n 2, 1) := by decide +kernel
theorem dX10_meets_107 : decode cX10_meets 107 = .ok (.imul, 1) := by decide +kernel
theorem dX10_meets_108 : decode cX10_meets 108 = .ok (.iload 7, 2) := by decide +kernel
theorem dX10_meets_110 : decode cX10_meets 110 = .ok (.iadd, 1) := by decide +kernel
theorem dX10_meets_111 : decode cX10_meets 111 = .ok (.laload, 1) := by decide +kernel
theorem dX10_meets_112 : decode cX10_meets 112 = .ok (.ladd, 1) := by decide +kernel
theorem dX10_meets_113 : decode cX10_meets 113 = .ok (.lstore 14, 2) := by decide +kernel
theorem dX10_meets_115 : decode cX10_meets 115 = .ok (.iload 5, 2) := by decide +kernel
theorem dX10_meets_117 : decode cX10_meets 117 = .ok (.lload 12, 2) := by decide +kernel
theorem dX10_meets_119 : decode cX10_meets 119 = .ok (.lload 14, 2) := by decide +kernel
theorem dX10_meets_121 : decode cX10_meets 121 = .ok (.lcmp, 1) := by decide +kernel
theorem dX10_meets_122 : decode cX10_meets 122 = .ok (.ifCond .ne 7, 3) := by decide +kernel
theorem dX10_meets_125 : decode cX10_meets 125 = .ok (.iconst 1, 1) := by decide +kernel
theorem dX10_meets_126 : decode cX10_meets 126 = .ok (.goto 4, 3) := by decide +kernel
theorem dX10_meets_129 : decode cX10_meets 129 = .ok (.iconst 0, 1) := by decide +kernel
theorem dX10_meets_130 : decode cX10_meets 130 = .ok (.iadd, 1) := by decide +kernel
theorem dX10_meets_131 : decode cX10_meets 131 = .ok (.istore 5, 2) := by decide +kernel
theorem dX10_meets_133 : decode cX10_meets 133 = .ok (.lload 12, 2) := by decide +kernel
theorem dX10_meets_135 : decode cX10_meets 135 = .ok (.lload 14, 2) := by decide +kernel
theorem dX10_meets_137 : decode cX10_meets 137 = .ok (.lcmp, 1) := by decide +kernel
theorem dX10_meets_138 : decode cX10_meets 138 = .ok (.ifCond .gt 51, 3) := by decide +kernel
theorem dX10_meets_141 : decode cX10_meets 141 = .ok (.iinc 6 1, 3) := by decide +kernel
theorem dX10_meets_144 : decode cX10_meets 144 = .ok (.lload 8, 2) := by decide +kernel
theorem dX10_meets_146 : decode cX10_meets 146 = .ok (.iload 6, 2) := by decide +kernel
theorem dX10_meets_148 : decode cX10_meets 148 = .ok (.aload_n 0, 1) := by decide +kernel
theorem dX10_meets_149 : decode cX10_meets 149 = .ok (.getfield 41, 3) := by decide +kernel
theorem dX10_meets_152 : decode cX10_meets 152 = .ok (.iload_n 1, 1) := by decide +kernel
theorem dX10_meets_153 : decode cX10_meets 153 = .ok (.iaload, 1) := by decide +kernel
theorem dX10_meets_154 : decode cX10_meets 154 = .ok (.if_icmp .ne 12, 3) := by decide +kernel
theorem dX10_meets_157 : decode cX10_meets 157 = .ok (.aload_n 0, 1) := by decide +kernel
theorem dX10_meets_158 : decode cX10_meets 158 = .ok (.getfield 44, 3) := by decide +kernel
theorem dX10_meets_161 : decode cX10_meets 161 = .ok (.iload_n 1, 1) := by decide +kernel
theorem dX10_meets_162 : decode cX10_meets 162 = .ok (.laload, 1) := by decide +kernel
theorem dX10_meets_163 : decode cX10_meets 163 = .ok (.goto 4, 3) := by decide +kernel
theorem dX10_meets_166 : decode cX10_meets 166 = .ok (.lconst 0, 1) := by decide +kernel
theorem dX10_meets_167 : decode cX10_meets 167 = .ok (.ladd, 1) := by decide +kernel
theorem dX10_meets_168 : decode cX10_meets 168 = .ok (.lstore 8, 2) := by decide +kernel
theorem dX10_meets_170 : decode cX10_meets 170 = .ok (.iload 6, 2) := by decide +kernel
theorem dX10_meets_172 : decode cX10_meets 172 = .ok (.aload_n 0, 1) := by decide +kernel
theorem dX10_meets_173 : decode cX10_meets 173 = .ok (.getfield 41, 3) := by decide +kernel
theorem dX10_meets_176 : decode cX10_meets 176 = .ok (.iload_n 1, 1) := by decide +kernel
theorem dX10_meets_177 : decode cX10_meets 177 = .ok (.iaload, 1) := by decide +kernel
theorem dX10_meets_178 : decode cX10_meets 178 = .ok (.if_icmp .ne 7, 3) := by decide +kernel
theorem dX10_meets_181 : decode cX10_meets 181 = .ok (.iconst 0, 1) := by decide +kernel
theorem dX10_meets_182 : decode cX10_meets 182 = .ok (.goto 5, 3) := by decide +kernel
theorem dX10_meets_185 : decode cX10_meets 185 = .ok (.iload 6, 2) := by decide +kernel
theorem dX10_meets_187 : decode cX10_meets 187 = .ok (.istore 6, 2) := by decide +kernel
theorem dX10_meets_189 : decode cX10_meets 189 = .ok (.lload 14, 2) := by decide +kernel
theorem dX10_meets_191 : decode cX10_meets 191 = .ok (.lload 12, 2) := by decide +kernel
theorem dX10_meets_193 : decode cX10_meets 193 = .ok (.lcmp, 1) := by decide +kernel
theorem dX10_meets_194 : decode cX10_meets 194 = .ok (.ifCond .gt 51, 3) := by decide +kernel
theorem dX10_meets_197 : decode cX10_meets 197 = .ok (.iinc 7 1, 3) := by decide +kernel
theorem dX10_meets_200 : decode cX10_meets 200 = .ok (.lload 10, 2) := by decide +kernel
theorem dX10_meets_202 : decode cX10_meets 202 = .ok (.iload 7, 2) := by decide +kernel
theorem dX10_meets_204 : decode cX10_meets 204 = .ok (.aload_n 0, 1) := by decide +kernel
theorem dX10_meets_205 : decode cX10_meets 205 = .ok (.getfield 41, 3) := by decide +kernel
theorem dX10_meets_208 : decode cX10_meets 208 = .ok (.iload_n 2, 1) := by decide +kernel
theorem dX10_meets_209 : decode cX10_meets 209 = .ok (.iaload, 1) := by decide +kernel
theorem dX10_meets_210 : decode cX10_meets 210 = .ok (.if_icmp .ne 12, 3) := by decide +kernel
theorem dX10_meets_213 : decode cX10_meets 213 = .ok (.aload_n 0, 1) := by decide +kernel
theorem dX10_meets_214 : decode cX10_meets 214 = .ok (.getfield 44, 3) := by decide +kernel
theorem dX10_meets_217 : decode cX10_meets 217 = .ok (.iload_n 2, 1) := by decide +kernel
theorem dX10_meets_218 : decode cX10_meets 218 = .ok (.laload, 1) := by decide +kernel
theorem dX10_meets_219 : decode cX10_meets 219 = .ok (.goto 4, 3) := by decide +kernel
theorem dX10_meets_222 : decode cX10_meets 222 = .ok (.lconst 0, 1) := by decide +kernel
theorem dX10_meets_223 : decode cX10_meets 223 = .ok (.ladd, 1) := by decide +kernel
theorem dX10_meets_224 : decode cX10_meets 224 = .ok (.lstore 10, 2) := by decide +kernel
theorem dX10_meets_226 : decode cX10_meets 226 = .ok (.iload 7, 2) := by decide +kernel
theorem dX10_meets_228 : decode cX10_meets 228 = .ok (.aload_n 0, 1) := by decide +kernel
theorem dX10_meets_229 : decode cX10_meets 229 = .ok (.getfield 41, 3) := by decide +kernel
theorem dX10_meets_232 : decode cX10_meets 232 = .ok (.iload_n 2, 1) := by decide +kernel
theorem dX10_meets_233 : decode cX10_meets 233 = .ok (.iaload, 1) := by decide +kernel
theorem dX10_meets_234 : decode cX10_meets 234 = .ok (.if_icmp .ne 7, 3) := by decide +kernel
theorem dX10_meets_237 : decode cX10_meets 237 = .ok (.iconst 0, 1) := by decide +kernel
theorem dX10_meets_238 : decode cX10_meets 238 = .ok (.goto 5, 3) := by decide +kernel
theorem dX10_meets_241 : decode cX10_meets 241 = .ok (.iload 7, 2) := by decide +kernel
theorem dX10_meets_243 : decode cX10_meets 243 = .ok (.istore 7, 2) := by decide +kernel
theorem dX10_meets_245 : decode cX10_meets 245 = .ok (.goto (-198), 3) := by decide +kernel
theorem dX10_meets_248 : decode cX10_meets 248 = .ok (.iload 5, 2) := by decide +kernel
theorem dX10_meets_250 : decode cX10_meets 250 = .ok (.ireturn, 1) := by decide +kernel
theorem dX10_undo_0 : decode cX10_undo 0 = .ok (.aload_n 0, 1) := by decide +kernel
theorem dX10_undo_1 : decode cX10_undo 1 = .ok (.getfield 72, 3) := by decide +kernel
theorem dX10_undo_4 : decode cX10_undo 4 = .ok (.ifCond .ne 6, 3) := by decide +kernel
theorem dX10_undo_7 : decode cX10_undo 7 = .ok (.bipush (-9), 2) := by decide +kernel
theorem dX10_undo_9 : decode cX10_undo 9 = .ok (.ireturn, 1) := by decide +kernel
theorem dX10_undo_10 : decode cX10_undo 10 = .ok (.aload_n 0, 1) := by decide +kernel
theorem dX10_undo_11 : decode cX10_undo 11 = .ok (.dup, 1) := by decide +kernel
theorem dX10_undo_12 : decode cX10_undo 12 = .ok (.getfield 72, 3) := by decide +kernel
theorem dX10_undo_15 : decode cX10_undo 15 = .ok (.iconst 1, 1) := by decide +kernel
theorem dX10_undo_16 : decode cX10_undo 16 = .ok (.isub, 1) := by decide +kernel
theorem dX10_undo_17 : decode cX10_undo 17 = .ok (.putfield 72, 3) := by decide +kernel
theorem dX10_undo_20 : decode cX10_undo 20 = .ok (.iconst 0, 1) := by decide +kernel
theorem dX10_undo_21 : decode cX10_undo 21 = .ok (.istore_n 1, 1) := by decide +kernel
theorem dX10_undo_22 : decode cX10_undo 22 = .ok (.iload_n 1, 1) := by decide +kernel
theorem dX10_undo_23 : decode cX10_undo 23 = .ok (.sipush 420, 3) := by decide +kernel
theorem dX10_undo_26 : decode cX10_undo 26 = .ok (.if_icmp .ge 30, 3) := by decide +kernel
theorem dX10_undo_29 : decode cX10_undo 29 = .ok (.aload_n 0, 1) := by decide +kernel
theorem dX10_undo_30 : decode cX10_undo 30 = .ok (.getfield 7, 3) := by decide +kernel
theorem dX10_undo_33 : decode cX10_undo 33 = .ok (.iload_n 1, 1) := by decide +kernel
theorem dX10_undo_34 : decode cX10_undo 34 = .ok (.aload_n 0, 1) := by decide +kernel
theorem dX10_undo_35 : decode cX10_undo 35 = .ok (.getfield 13, 3) := by decide +kernel
theorem dX10_undo_38 : decode cX10_undo 38 = .ok (.sipush 420, 3) := by decide +kernel
theorem dX10_undo_41 : decode cX10_undo 41 = .ok (.aload_n 0, 1) := by decide +kernel
theorem dX10_undo_42 : decode cX10_undo 42 = .ok (.getfield 72, 3) := by decide +kernel
theorem dX10_undo_45 : decode cX10_undo 45 = .ok (.imul, 1) := by decide +kernel
theorem dX10_undo_46 : decode cX10_undo 46 = .ok (.iload_n 1, 1) := by decide +kernel
theorem dX10_undo_47 : decode cX10_undo 47 = .ok (.iadd, 1) := by decide +kernel
theorem dX10_undo_48 : decode cX10_undo 48 = .ok (.iaload, 1) := by decide +kernel
theorem dX10_undo_49 : decode cX10_undo 49 = .ok (.iastore, 1) := by decide +kernel
theorem dX10_undo_50 : decode cX10_undo 50 = .ok (.iinc 1 1, 3) := by decide +kernel
theorem dX10_undo_53 : decode cX10_undo 53 = .ok (.goto (-31), 3) := by decide +kernel
theorem dX10_undo_56 : decode cX10_undo 56 = .ok (.aload_n 0, 1) := by decide +kernel
theorem dX10_undo_57 : decode cX10_undo 57 = .ok (.getfield 72, 3) := by decide +kernel
theorem dX10_undo_60 : decode cX10_undo 60 = .ok (.ireturn, 1) := by decide +kernel
theorem dX10_fingerprint_0 : decode cX10_fingerprint 0 = .ok (.ldc2_w 233, 3) := by decide +kernel
theorem dX10_fingerprint_3 : decode cX10_fingerprint 3 = .ok (.lstore_n 1, 1) := by decide +kernel
theorem dX10_fingerprint_4 : decode cX10_fingerprint 4 = .ok (.iconst 0, 1) := by decide +kernel
theorem dX10_fingerprint_5 : decode cX10_fingerprint 5 = .ok (.istore_n 3, 1) := by decide +kernel
theorem dX10_fingerprint_6 : decode cX10_fingerprint 6 = .ok (.iload_n 3, 1) := by decide +kernel
theorem dX10_fingerprint_7 : decode cX10_fingerprint 7 = .ok (.iconst 4, 1) := by decide +kernel
theorem dX10_fingerprint_8 : decode cX10_fingerprint 8 = .ok (.if_icmp .ge 71, 3) := by decide +kernel
theorem dX10_fingerprint_11 : decode cX10_fingerprint 11 = .ok (.ldc2_w 235, 3) := by decide +kernel
theorem dX10_fingerprint_14 : decode cX10_fingerprint 14 = .ok (.lload_n 1, 1) := by decide +kernel
theorem dX10_fingerprint_15 : decode cX10_fingerprint 15 = .ok (.lmul, 1) := by decide +kernel
theorem dX10_fingerprint_16 : decode cX10_fingerprint 16 = .ok (.aload_n 0, 1) := by decide +kernel
theorem dX10_fingerprint_17 : decode cX10_fingerprint 17 = .ok (.getfield 7, 3) := by decide +kernel
theorem dX10_fingerprint_20 : decode cX10_fingerprint 20 = .ok (.bipush 101, 2) := by decide +kernel
theorem dX10_fingerprint_22 : decode cX10_fingerprint 22 = .ok (.iload_n 3, 1) := by decide +kernel
theorem dX10_fingerprint_23 : decode cX10_fingerprint 23 = .ok (.imul, 1) := by decide +kernel
theorem dX10_fingerprint_24 : decode cX10_fingerprint 24 = .ok (.iaload, 1) := by decide +kernel
theorem dX10_fingerprint_25 : decode cX10_fingerprint 25 = .ok (.i2l, 1) := by decide +kernel
theorem dX10_fingerprint_26 : decode cX10_fingerprint 26 = .ok (.ladd, 1) := by decide +kernel
theorem dX10_fingerprint_27 : decode cX10_fingerprint 27 = .ok (.lstore_n 1, 1) := by decide +kernel
theorem dX10_fingerprint_28 : decode cX10_fingerprint 28 = .ok (.iconst 0, 1) := by decide +kernel
theorem dX10_fingerprint_29 : decode cX10_fingerprint 29 = .ok (.istore 4, 2) := by decide +kernel
theorem dX10_fingerprint_31 : decode cX10_fingerprint 31 = .ok (.iload 4, 2) := by decide +kernel
theorem dX10_fingerprint_33 : decode cX10_fingerprint 33 = .ok (.aload_n 0, 1) := by decide +kernel
theorem dX10_fingerprint_34 : decode cX10_fingerprint 34 = .ok (.getfield 7, 3) := by decide +kernel
theorem dX10_fingerprint_37 : decode cX10_fingerprint 37 = .ok (.bipush 101, 2) := by decide +kernel
theorem dX10_fingerprint_39 : decode cX10_fingerprint 39 = .ok (.iload_n 3, 1) := by decide +kernel
theorem dX10_fingerprint_40 : decode cX10_fingerprint 40 = .ok (.imul, 1) := by decide +kernel
theorem dX10_fingerprint_41 : decode cX10_fingerprint 41 = .ok (.iaload, 1) := by decide +kernel
theorem dX10_fingerprint_42 : decode cX10_fingerprint 42 = .ok (.if_icmp .ge 31, 3) := by decide +kernel
theorem dX10_fingerprint_45 : decode cX10_fingerprint 45 = .ok (.ldc2_w 235, 3) := by decide +kernel
theorem dX10_fingerprint_48 : decode cX10_fingerprint 48 = .ok (.lload_n 1, 1) := by decide +kernel
theorem dX10_fingerprint_49 : decode cX10_fingerprint 49 = .ok (.lmul, 1) := by decide +kernel
theorem dX10_fingerprint_50 : decode cX10_fingerprint 50 = .ok (.aload_n 0, 1) := by decide +kernel
theorem dX10_fingerprint_51 : decode cX10_fingerprint 51 = .ok (.getfield 7, 3) := by decide +kernel
theorem dX10_fingerprint_54 : decode cX10_fingerprint 54 = .ok (.bipush 101, 2) := by decide +kernel
theorem dX10_fingerprint_56 : decode cX10_fingerprint 56 = .ok (.iload_n 3, 1) := by decide +kernel
theorem dX10_fingerprint_57 : decode cX10_fingerprint 57 = .ok (.imul, 1) := by decide +kernel
theorem dX10_fingerprint_58 : decode cX10_fingerprint 58 = .ok (.iconst 1, 1) := by decide +kernel
theorem dX10_fingerprint_59 : decode cX10_fingerprint 59 = .ok (.iadd, 1) := by decide +kernel
theorem dX10_fingerprint_60 : decode cX10_fingerprint 60 = .ok (.iload 4, 2) := by decide +kernel
theorem dX10_fingerprint_62 : decode cX10_fingerprint 62 = .ok (.iadd, 1) := by decide +kernel
theorem dX10_fingerprint_63 : decode cX10_fingerprint 63 = .ok (.iaload, 1) := by decide +kernel
theorem dX10_fingerprint_64 : decode cX10_fingerprint 64 = .ok (.i2l, 1) := by decide +kernel
theorem dX10_fingerprint_65 : decode cX10_fingerprint 65 = .ok (.ladd, 1) := by decide +kernel
theorem dX10_fingerprint_66 : decode cX10_fingerprint 66 = .ok (.lstore_n 1, 1) := by decide +kernel
theorem dX10_fingerprint_67 : decode cX10_fingerprint 67 = .ok (.iinc 4 1, 3) := by decide +kernel
theorem dX10_fingerprint_70 : decode cX10_fingerprint 70 = .ok (.goto (-39), 3) := by decide +kernel
theorem dX10_fingerprint_73 : decode cX10_fingerprint 73 = .ok (.iinc 3 1, 3) := by decide +kernel
theorem dX10_fingerprint_76 : decode cX10_fingerprint 76 = .ok (.goto (-70), 3) := by decide +kernel
theorem dX10_fingerprint_79 : decode cX10_fingerprint 79 = .ok (.sipush 404, 3) := by decide +kernel
theorem dX10_fingerprint_82 : decode cX10_fingerprint 82 = .ok (.istore_n 3, 1) := by decide +kernel
theorem dX10_fingerprint_83 : decode cX10_fingerprint 83 = .ok (.iload_n 3, 1) := by decide +kernel
theorem dX10_fingerprint_84 : decode cX10_fingerprint 84 = .ok (.sipush 407, 3) := by decide +kernel
theorem dX10_fingerprint_87 : decode cX10_fingerprint 87 = .ok (.if_icmp .gt 23, 3) := by decide +kernel
theorem dX10_fingerprint_90 : decode cX10_fingerprint 90 = .ok (.ldc2_w 235, 3) := by decide +kernel
theorem dX10_fingerprint_93 : decode cX10_fingerprint 93 = .ok (.lload_n 1, 1) := by decide +kernel
theorem dX10_fingerprint_94 : decode cX10_fingerprint 94 = .ok (.lmul, 1) := by decide +kernel
theorem dX10_fingerprint_95 : decode cX10_fingerprint 95 = .ok (.aload_n 0, 1) := by decide +kernel
theorem dX10_fingerprint_96 : decode cX10_fingerprint 96 = .ok (.getfield 7, 3) := by decide +kernel
theorem dX10_fingerprint_99 : decode cX10_fingerprint 99 = .ok (.iload_n 3, 1) := by decide +kernel
theorem dX10_fingerprint_100 : decode cX10_fingerprint 100 = .ok (.iaload, 1) := by decide +kernel
theorem dX10_fingerprint_101 : decode cX10_fingerprint 101 = .ok (.i2l, 1) := by decide +kernel
theorem dX10_fingerprint_102 : decode cX10_fingerprint 102 = .ok (.ladd, 1) := by decide +kernel
theorem dX10_fingerprint_103 : decode cX10_fingerprint 103 = .ok (.lstore_n 1, 1) := by decide +kernel
theorem dX10_fingerprint_104 : decode cX10_fingerprint 104 = .ok (.iinc 3 1, 3) := by decide +kernel
theorem dX10_fingerprint_107 : decode cX10_fingerprint 107 = .ok (.goto (-24), 3) := by decide +kernel
theorem dX10_fingerprint_110 : decode cX10_fingerprint 110 = .ok (.lload_n 1, 1) := by decide +kernel
theorem dX10_fingerprint_111 : decode cX10_fingerprint 111 = .ok (.lreturn, 1) := by decide +kernel
