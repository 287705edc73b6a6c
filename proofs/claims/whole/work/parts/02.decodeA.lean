theorem dX0_init_0 : decode cX0_init 0 = .ok (.aload_n 0, 1) := by decide +kernel
theorem dX0_init_1 : decode cX0_init 1 = .ok (.invokespecial 3, 3) := by decide +kernel
theorem dX0_init_4 : decode cX0_init 4 = .ok (.return_, 1) := by decide +kernel
theorem dX0_wrongPlace_0 : decode cX0_wrongPlace 0 = .ok (.aload_n 0, 1) := by decide +kernel
theorem dX0_wrongPlace_1 : decode cX0_wrongPlace 1 = .ok (.invokevirtual 9, 3) := by decide +kernel
theorem dX0_wrongPlace_4 : decode cX0_wrongPlace 4 = .ok (.iconst 0, 1) := by decide +kernel
theorem dX0_wrongPlace_5 : decode cX0_wrongPlace 5 = .ok (.istore_n 2, 1) := by decide +kernel
theorem dX0_wrongPlace_6 : decode cX0_wrongPlace 6 = .ok (.iload_n 2, 1) := by decide +kernel
theorem dX0_wrongPlace_7 : decode cX0_wrongPlace 7 = .ok (.aload_n 1, 1) := by decide +kernel
theorem dX0_wrongPlace_8 : decode cX0_wrongPlace 8 = .ok (.invokevirtual 14, 3) := by decide +kernel
theorem dX0_wrongPlace_11 : decode cX0_wrongPlace 11 = .ok (.if_icmp .ge 23, 3) := by decide +kernel
theorem dX0_wrongPlace_14 : decode cX0_wrongPlace 14 = .ok (.aload_n 0, 1) := by decide +kernel
theorem dX0_wrongPlace_15 : decode cX0_wrongPlace 15 = .ok (.aload_n 1, 1) := by decide +kernel
theorem dX0_wrongPlace_16 : decode cX0_wrongPlace 16 = .ok (.iload_n 2, 1) := by decide +kernel
theorem dX0_wrongPlace_17 : decode cX0_wrongPlace 17 = .ok (.invokevirtual 20, 3) := by decide +kernel
theorem dX0_wrongPlace_20 : decode cX0_wrongPlace 20 = .ok (.invokevirtual 24, 3) := by decide +kernel
theorem dX0_wrongPlace_23 : decode cX0_wrongPlace 23 = .ok (.ifCond .ne 5, 3) := by decide +kernel
theorem dX0_wrongPlace_26 : decode cX0_wrongPlace 26 = .ok (.iload_n 2, 1) := by decide +kernel
theorem dX0_wrongPlace_27 : decode cX0_wrongPlace 27 = .ok (.ireturn, 1) := by decide +kernel
theorem dX0_wrongPlace_28 : decode cX0_wrongPlace 28 = .ok (.iinc 2 1, 3) := by decide +kernel
theorem dX0_wrongPlace_31 : decode cX0_wrongPlace 31 = .ok (.goto (-25), 3) := by decide +kernel
theorem dX0_wrongPlace_34 : decode cX0_wrongPlace 34 = .ok (.aload_n 0, 1) := by decide +kernel
theorem dX0_wrongPlace_35 : decode cX0_wrongPlace 35 = .ok (.getfield 28, 3) := by decide +kernel
theorem dX0_wrongPlace_38 : decode cX0_wrongPlace 38 = .ok (.ifCond .ne 21, 3) := by decide +kernel
theorem dX0_wrongPlace_41 : decode cX0_wrongPlace 41 = .ok (.aload_n 0, 1) := by decide +kernel
theorem dX0_wrongPlace_42 : decode cX0_wrongPlace 42 = .ok (.getfield 32, 3) := by decide +kernel
theorem dX0_wrongPlace_45 : decode cX0_wrongPlace 45 = .ok (.ifCond .ne 14, 3) := by decide +kernel
theorem dX0_wrongPlace_48 : decode cX0_wrongPlace 48 = .ok (.aload_n 0, 1) := by decide +kernel
theorem dX0_wrongPlace_49 : decode cX0_wrongPlace 49 = .ok (.getfield 35, 3) := by decide +kernel
theorem dX0_wrongPlace_52 : decode cX0_wrongPlace 52 = .ok (.ifCond .ne 7, 3) := by decide +kernel
theorem dX0_wrongPlace_55 : decode cX0_wrongPlace 55 = .ok (.iconst 1, 1) := by decide +kernel
theorem dX0_wrongPlace_56 : decode cX0_wrongPlace 56 = .ok (.goto 4, 3) := by decide +kernel
theorem dX0_wrongPlace_59 : decode cX0_wrongPlace 59 = .ok (.iconst 0, 1) := by decide +kernel
theorem dX0_wrongPlace_60 : decode cX0_wrongPlace 60 = .ok (.istore_n 2, 1) := by decide +kernel
theorem dX0_wrongPlace_61 : decode cX0_wrongPlace 61 = .ok (.iload_n 2, 1) := by decide +kernel
theorem dX0_wrongPlace_62 : decode cX0_wrongPlace 62 = .ok (.ifCond .eq 8, 3) := by decide +kernel
theorem dX0_wrongPlace_65 : decode cX0_wrongPlace 65 = .ok (.bipush (-9), 2) := by decide +kernel
theorem dX0_wrongPlace_67 : decode cX0_wrongPlace 67 = .ok (.goto 7, 3) := by decide +kernel
theorem dX0_wrongPlace_70 : decode cX0_wrongPlace 70 = .ok (.aload_n 1, 1) := by decide +kernel
theorem dX0_wrongPlace_71 : decode cX0_wrongPlace 71 = .ok (.invokevirtual 14, 3) := by decide +kernel
theorem dX0_wrongPlace_74 : decode cX0_wrongPlace 74 = .ok (.ireturn, 1) := by decide +kernel
theorem dX0_start_0 : decode cX0_start 0 = .ok (.aload_n 0, 1) := by decide +kernel
theorem dX0_start_1 : decode cX0_start 1 = .ok (.iconst 0, 1) := by decide +kernel
theorem dX0_start_2 : decode cX0_start 2 = .ok (.putfield 28, 3) := by decide +kernel
theorem dX0_start_5 : decode cX0_start 5 = .ok (.aload_n 0, 1) := by decide +kernel
theorem dX0_start_6 : decode cX0_start 6 = .ok (.iconst 0, 1) := by decide +kernel
theorem dX0_start_7 : decode cX0_start 7 = .ok (.putfield 32, 3) := by decide +kernel
theorem dX0_start_10 : decode cX0_start 10 = .ok (.aload_n 0, 1) := by decide +kernel
theorem dX0_start_11 : decode cX0_start 11 = .ok (.iconst 0, 1) := by decide +kernel
theorem dX0_start_12 : decode cX0_start 12 = .ok (.putfield 39, 3) := by decide +kernel
theorem dX0_start_15 : decode cX0_start 15 = .ok (.aload_n 0, 1) := by decide +kernel
theorem dX0_start_16 : decode cX0_start 16 = .ok (.iconst 0, 1) := by decide +kernel
theorem dX0_start_17 : decode cX0_start 17 = .ok (.putfield 35, 3) := by decide +kernel
theorem dX0_start_20 : decode cX0_start 20 = .ok (.aload_n 0, 1) := by decide +kernel
theorem dX0_start_21 : decode cX0_start 21 = .ok (.invokevirtual 42, 3) := by decide +kernel
theorem dX0_start_24 : decode cX0_start 24 = .ok (.return_, 1) := by decide +kernel
theorem dX0_accepts_0 : decode cX0_accepts 0 = .ok (.iload_n 1, 1) := by decide +kernel
theorem dX0_accepts_1 : decode cX0_accepts 1 = .ok (.invokestatic 45, 3) := by decide +kernel
theorem dX0_accepts_4 : decode cX0_accepts 4 = .ok (.istore_n 2, 1) := by decide +kernel
theorem dX0_accepts_5 : decode cX0_accepts 5 = .ok (.aload_n 0, 1) := by decide +kernel
theorem dX0_accepts_6 : decode cX0_accepts 6 = .ok (.getfield 28, 3) := by decide +kernel
theorem dX0_accepts_9 : decode cX0_accepts 9 = .ok (.tableswitch 173 1 8 #[47, 54, 61, 77, 94, 110, 127, 157], 47) := by decide +kernel
theorem dX0_accepts_56 : decode cX0_accepts 56 = .ok (.aload_n 0, 1) := by decide +kernel
theorem dX0_accepts_57 : decode cX0_accepts 57 = .ok (.iload_n 1, 1) := by decide +kernel
theorem dX0_accepts_58 : decode cX0_accepts 58 = .ok (.iconst 1, 1) := by decide +kernel
theorem dX0_accepts_59 : decode cX0_accepts 59 = .ok (.invokevirtual 50, 3) := by decide +kernel
theorem dX0_accepts_62 : decode cX0_accepts 62 = .ok (.ireturn, 1) := by decide +kernel
theorem dX0_accepts_63 : decode cX0_accepts 63 = .ok (.aload_n 0, 1) := by decide +kernel
theorem dX0_accepts_64 : decode cX0_accepts 64 = .ok (.iload_n 1, 1) := by decide +kernel
theorem dX0_accepts_65 : decode cX0_accepts 65 = .ok (.iconst 0, 1) := by decide +kernel
theorem dX0_accepts_66 : decode cX0_accepts 66 = .ok (.invokevirtual 50, 3) := by decide +kernel
theorem dX0_accepts_69 : decode cX0_accepts 69 = .ok (.ireturn, 1) := by decide +kernel
theorem dX0_accepts_70 : decode cX0_accepts 70 = .ok (.aload_n 0, 1) := by decide +kernel
theorem dX0_accepts_71 : decode cX0_accepts 71 = .ok (.iload_n 2, 1) := by decide +kernel
theorem dX0_accepts_72 : decode cX0_accepts 72 = .ok (.iconst 2, 1) := by decide +kernel
theorem dX0_accepts_73 : decode cX0_accepts 73 = .ok (.if_icmp .lt 7, 3) := by decide +kernel
theorem dX0_accepts_76 : decode cX0_accepts 76 = .ok (.iconst 1, 1) := by decide +kernel
theorem dX0_accepts_77 : decode cX0_accepts 77 = .ok (.goto 4, 3) := by decide +kernel
theorem dX0_accepts_80 : decode cX0_accepts 80 = .ok (.iconst 0, 1) := by decide +kernel
theorem dX0_accepts_81 : decode cX0_accepts 81 = .ok (.iconst 4, 1) := by decide +kernel
theorem dX0_accepts_82 : decode cX0_accepts 82 = .ok (.invokevirtual 54, 3) := by decide +kernel
theorem dX0_accepts_85 : decode cX0_accepts 85 = .ok (.ireturn, 1) := by decide +kernel
theorem dX0_accepts_86 : decode cX0_accepts 86 = .ok (.aload_n 0, 1) := by decide +kernel
theorem dX0_accepts_87 : decode cX0_accepts 87 = .ok (.iload_n 1, 1) := by decide +kernel
theorem dX0_accepts_88 : decode cX0_accepts 88 = .ok (.bipush 58, 2) := by decide +kernel
theorem dX0_accepts_90 : decode cX0_accepts 90 = .ok (.if_icmp .ne 7, 3) := by decide +kernel
theorem dX0_accepts_93 : decode cX0_accepts 93 = .ok (.iconst 1, 1) := by decide +kernel
theorem dX0_accepts_94 : decode cX0_accepts 94 = .ok (.goto 4, 3) := by decide +kernel
theorem dX0_accepts_97 : decode cX0_accepts 97 = .ok (.iconst 0, 1) := by decide +kernel
theorem dX0_accepts_98 : decode cX0_accepts 98 = .ok (.iconst 5, 1) := by decide +kernel
theorem dX0_accepts_99 : decode cX0_accepts 99 = .ok (.invokevirtual 54, 3) := by decide +kernel
theorem dX0_accepts_102 : decode cX0_accepts 102 = .ok (.ireturn, 1) := by decide +kernel
theorem dX0_accepts_103 : decode cX0_accepts 103 = .ok (.aload_n 0, 1) := by decide +kernel
theorem dX0_accepts_104 : decode cX0_accepts 104 = .ok (.iload_n 2, 1) := by decide +kernel
theorem dX0_accepts_105 : decode cX0_accepts 105 = .ok (.iconst 2, 1) := by decide +kernel
theorem dX0_accepts_106 : decode cX0_accepts 106 = .ok (.if_icmp .lt 7, 3) := by decide +kernel
theorem dX0_accepts_109 : decode cX0_accepts 109 = .ok (.iconst 1, 1) := by decide +kernel
theorem dX0_accepts_110 : decode cX0_accepts 110 = .ok (.goto 4, 3) := by decide +kernel
theorem dX0_accepts_113 : decode cX0_accepts 113 = .ok (.iconst 0, 1) := by decide +kernel
theorem dX0_accepts_114 : decode cX0_accepts 114 = .ok (.iconst 0, 1) := by decide +kernel
theorem dX0_accepts_115 : decode cX0_accepts 115 = .ok (.invokevirtual 54, 3) := by decide +kernel
theorem dX0_accepts_118 : decode cX0_accepts 118 = .ok (.ireturn, 1) := by decide +kernel
theorem dX0_accepts_119 : decode cX0_accepts 119 = .ok (.aload_n 0, 1) := by decide +kernel
theorem dX0_accepts_120 : decode cX0_accepts 120 = .ok (.iload_n 2, 1) := by decide +kernel
theorem dX0_accepts_121 : decode cX0_accepts 121 = .ok (.iconst 1, 1) := by decide +kernel
theorem dX0_accepts_122 : decode cX0_accepts 122 = .ok (.if_icmp .lt 7, 3) := by decide +kernel
theorem dX0_accepts_125 : decode cX0_accepts 125 = .ok (.iconst 1, 1) := by decide +kernel
theorem dX0_accepts_126 : decode cX0_accepts 126 = .ok (.goto 4, 3) := by decide +kernel
theorem dX0_accepts_129 : decode cX0_accepts 129 = .ok (.iconst 0, 1) := by decide +kernel
theorem dX0_accepts_130 : decode cX0_accepts 130 = .ok (.bipush 7, 2) := by decide +kernel
theorem dX0_accepts_132 : decode cX0_accepts 132 = .ok (.invokevirtual 54, 3) := by decide +kernel
theorem dX0_accepts_135 : decode cX0_accepts 135 = .ok (.ireturn, 1) := by decide +kernel
theorem dX0_accepts_136 : decode cX0_accepts 136 = .ok (.iload_n 2, 1) := by decide +kernel
theorem dX0_accepts_137 : decode cX0_accepts 137 = .ok (.iconst 1, 1) := by decide +kernel
theorem dX0_accepts_138 : decode cX0_accepts 138 = .ok (.if_icmp .ge 22, 3) := by decide +kernel
theorem dX0_accepts_141 : decode cX0_accepts 141 = .ok (.aload_n 0, 1) := by decide +kernel
theorem dX0_accepts_142 : decode cX0_accepts 142 = .ok (.iload_n 1, 1) := by decide +kernel
theorem dX0_accepts_143 : decode cX0_accepts 143 = .ok (.bipush 58, 2) := by decide +kernel
theorem dX0_accepts_145 : decode cX0_accepts 145 = .ok (.if_icmp .ne 7, 3) := by decide +kernel
theorem dX0_accepts_148 : decode cX0_accepts 148 = .ok (.iconst 1, 1) := by decide +kernel
theorem dX0_accepts_149 : decode cX0_accepts 149 = .ok (.goto 4, 3) := by decide +kernel
theorem dX0_accepts_152 : decode cX0_accepts 152 = .ok (.iconst 0, 1) := by decide +kernel
theorem dX0_accepts_153 : decode cX0_accepts 153 = .ok (.iconst 0, 1) := by decide +kernel
theorem dX0_accepts_154 : decode cX0_accepts 154 = .ok (.invokevirtual 54, 3) := by decide +kernel
theorem dX0_accepts_157 : decode cX0_accepts 157 = .ok (.ifCond .eq 7, 3) := by decide +kernel
theorem dX0_accepts_160 : decode cX0_accepts 160 = .ok (.iconst 1, 1) := by decide +kernel
theorem dX0_accepts_161 : decode cX0_accepts 161 = .ok (.goto 4, 3) := by decide +kernel
theorem dX0_accepts_164 : decode cX0_accepts 164 = .ok (.iconst 0, 1) := by decide +kernel
theorem dX0_accepts_165 : decode cX0_accepts 165 = .ok (.ireturn, 1) := by decide +kernel
theorem dX0_accepts_166 : decode cX0_accepts 166 = .ok (.aload_n 0, 1) := by decide +kernel
theorem dX0_accepts_167 : decode cX0_accepts 167 = .ok (.iload_n 2, 1) := by decide +kernel
theorem dX0_accepts_168 : decode cX0_accepts 168 = .ok (.iconst 2, 1) := by decide +kernel
theorem dX0_accepts_169 : decode cX0_accepts 169 = .ok (.if_icmp .lt 7, 3) := by decide +kernel
theorem dX0_accepts_172 : decode cX0_accepts 172 = .ok (.iconst 1, 1) := by decide +kernel
theorem dX0_accepts_173 : decode cX0_accepts 173 = .ok (.goto 4, 3) := by decide +kernel
theorem dX0_accepts_176 : decode cX0_accepts 176 = .ok (.iconst 0, 1) := by decide +kernel
theorem dX0_accepts_177 : decode cX0_accepts 177 = .ok (.iconst 0, 1) := by decide +kernel
theorem dX0_accepts_178 : decode cX0_accepts 178 = .ok (.invokevirtual 54, 3) := by decide +kernel
theorem dX0_accepts_181 : decode cX0_accepts 181 = .ok (.ireturn, 1) := by decide +kernel
theorem dX0_accepts_182 : decode cX0_accepts 182 = .ok (.aload_n 0, 1) := by decide +kernel
theorem dX0_accepts_183 : decode cX0_accepts 183 = .ok (.iload_n 1, 1) := by decide +kernel
theorem dX0_accepts_184 : decode cX0_accepts 184 = .ok (.invokevirtual 58, 3) := by decide +kernel
theorem dX0_accepts_187 : decode cX0_accepts 187 = .ok (.ireturn, 1) := by decide +kernel
theorem dX0_goesOn_0 : decode cX0_goesOn 0 = .ok (.iload_n 1, 1) := by decide +kernel
theorem dX0_goesOn_1 : decode cX0_goesOn 1 = .ok (.ifCond .eq 8, 3) := by decide +kernel
theorem dX0_goesOn_4 : decode cX0_goesOn 4 = .ok (.aload_n 0, 1) := by decide +kernel
theorem dX0_goesOn_5 : decode cX0_goesOn 5 = .ok (.iload_n 2, 1) := by decide +kernel
theorem dX0_goesOn_6 : decode cX0_goesOn 6 = .ok (.putfield 28, 3) := by decide +kernel
theorem dX0_goesOn_9 : decode cX0_goesOn 9 = .ok (.iload_n 1, 1) := by decide +kernel
theorem dX0_goesOn_10 : decode cX0_goesOn 10 = .ok (.ireturn, 1) := by decide +kernel
theorem dX0_acceptsItem_0 : decode cX0_acceptsItem 0 = .ok (.iload_n 1, 1) := by decide +kernel
theorem dX0_acceptsItem_1 : decode cX0_acceptsItem 1 = .ok (.bipush 46, 2) := by decide +kernel
theorem dX0_acceptsItem_3 : decode cX0_acceptsItem 3 = .ok (.if_icmp .ne 8, 3) := by decide +kernel
theorem dX0_acceptsItem_6 : decode cX0_acceptsItem 6 = .ok (.aload_n 0, 1) := by decide +kernel
theorem dX0_acceptsItem_7 : decode cX0_acceptsItem 7 = .ok (.invokevirtual 61, 3) := by decide +kernel
theorem dX0_acceptsItem_10 : decode cX0_acceptsItem 10 = .ok (.ireturn, 1) := by decide +kernel
theorem dX0_acceptsItem_11 : decode cX0_acceptsItem 11 = .ok (.iload_n 1, 1) := by decide +kernel
theorem dX0_acceptsItem_12 : decode cX0_acceptsItem 12 = .ok (.bipush 126, 2) := by decide +kernel
theorem dX0_acceptsItem_14 : decode cX0_acceptsItem 14 = .ok (.if_icmp .ne 8, 3) := by decide +kernel
theorem dX0_acceptsItem_17 : decode cX0_acceptsItem 17 = .ok (.aload_n 0, 1) := by decide +kernel
theorem dX0_acceptsItem_18 : decode cX0_acceptsItem 18 = .ok (.invokevirtual 65, 3) := by decide +kernel
theorem dX0_acceptsItem_21 : decode cX0_acceptsItem 21 = .ok (.ireturn, 1) := by decide +kernel
theorem dX0_acceptsItem_22 : decode cX0_acceptsItem 22 = .ok (.aload_n 0, 1) := by decide +kernel
theorem dX0_acceptsItem_23 : decode cX0_acceptsItem 23 = .ok (.invokevirtual 42, 3) := by decide +kernel
theorem dX0_acceptsItem_26 : decode cX0_acceptsItem 26 = .ok (.iload_n 1, 1) := by decide +kernel
theorem dX0_acceptsItem_27 : decode cX0_acceptsItem 27 = .ok (.lookupswitch 146 #[(47, 115), (91, 110), (93, 141), (94, 73), (114, 80), (123, 87), (124, 97), (125, 92)], 73) := by decide +kernel
theorem dX0_acceptsItem_100 : decode cX0_acceptsItem 100 = .ok (.aload_n 0, 1) := by decide +kernel
theorem dX0_acceptsItem_101 : decode cX0_acceptsItem 101 = .ok (.iconst 1, 1) := by decide +kernel
theorem dX0_acceptsItem_102 : decode cX0_acceptsItem 102 = .ok (.iconst 1, 1) := by decide +kernel
theorem dX0_acceptsItem_103 : decode cX0_acceptsItem 103 = .ok (.invokevirtual 54, 3) := by decide +kernel
theorem dX0_acceptsItem_106 : decode cX0_acceptsItem 106 = .ok (.ireturn, 1) := by decide +kernel
theorem dX0_acceptsItem_107 : decode cX0_acceptsItem 107 = .ok (.aload_n 0, 1) := by decide +kernel
theorem dX0_acceptsItem_108 : decode cX0_acceptsItem 108 = .ok (.iconst 1, 1) := by decide +kernel
theorem dX0_acceptsItem_109 : decode cX0_acceptsItem 109 = .ok (.iconst 2, 1) := by decide +kernel
theorem dX0_acceptsItem_110 : decode cX0_acceptsItem 110 = .ok (.invokevirtual 54, 3) := by decide +kernel
theorem dX0_acceptsItem_113 : decode cX0_acceptsItem 113 = .ok (.ireturn, 1) := by decide +kernel
theorem dX0_acceptsItem_114 : decode cX0_acceptsItem 114 = .ok (.aload_n 0, 1) := by decide +kernel
theorem dX0_acceptsItem_115 : decode cX0_acceptsItem 115 = .ok (.invokevirtual 68, 3) := by decide +kernel
theorem dX0_acceptsItem_118 : decode cX0_acceptsItem 118 = .ok (.ireturn, 1) := by decide +kernel
theorem dX0_acceptsItem_119 : decode cX0_acceptsItem 119 = .ok (.aload_n 0, 1) := by decide +kernel
theorem dX0_acceptsItem_120 : decode cX0_acceptsItem 120 = .ok (.invokevirtual 71, 3) := by decide +kernel
theorem dX0_acceptsItem_123 : decode cX0_acceptsItem 123 = .ok (.ireturn, 1) := by decide +kernel
theorem dX0_acceptsItem_124 : decode cX0_acceptsItem 124 = .ok (.aload_n 0, 1) := by decide +kernel
theorem dX0_acceptsItem_125 : decode cX0_acceptsItem 125 = .ok (.getfield 32, 3) := by decide +kernel
theorem dX0_acceptsItem_128 : decode cX0_acceptsItem 128 = .ok (.ifCond .ne 7, 3) := by decide +kernel
theorem dX0_acceptsItem_131 : decode cX0_acceptsItem 131 = .ok (.iconst 1, 1) := by decide +kernel
theorem dX0_acceptsItem_132 : decode cX0_acceptsItem 132 = .ok (.goto 4, 3) := by decide +kernel
theorem dX0_acceptsItem_135 : decode cX0_acceptsItem 135 = .ok (.iconst 0, 1) := by decide +kernel
theorem dX0_acceptsItem_136 : decode cX0_acceptsItem 136 = .ok (.ireturn, 1) := by decide +kernel
theorem dX0_acceptsItem_137 : decode cX0_acceptsItem 137 = .ok (.aload_n 0, 1) := by decide +kernel
theorem dX0_acceptsItem_138 : decode cX0_acceptsItem 138 = .ok (.invokevirtual 74, 3) := by decide +kernel
theorem dX0_acceptsItem_141 : decode cX0_acceptsItem 141 = .ok (.ireturn, 1) := by decide +kernel
theorem dX0_acceptsItem_142 : decode cX0_acceptsItem 142 = .ok (.aload_n 0, 1) := by decide +kernel
theorem dX0_acceptsItem_143 : decode cX0_acceptsItem 143 = .ok (.aload_n 0, 1) := by decide +kernel
theorem dX0_acceptsItem_144 : decode cX0_acceptsItem 144 = .ok (.getfield 35, 3) := by decide +kernel
theorem dX0_acceptsItem_147 : decode cX0_acceptsItem 147 = .ok (.ifCond .eq 14, 3) := by decide +kernel
theorem dX0_acceptsItem_150 : decode cX0_acceptsItem 150 = .ok (.aload_n 0, 1) := by decide +kernel
theorem dX0_acceptsItem_151 : decode cX0_acceptsItem 151 = .ok (.getfield 32, 3) := by decide +kernel
theorem dX0_acceptsItem_154 : decode cX0_acceptsItem 154 = .ok (.ifCond .ne 7, 3) := by decide +kernel
theorem dX0_acceptsItem_157 : decode cX0_acceptsItem 157 = .ok (.iconst 1, 1) := by decide +kernel
theorem dX0_acceptsItem_158 : decode cX0_acceptsItem 158 = .ok (.goto 4, 3) := by decide +kernel
theorem dX0_acceptsItem_161 : decode cX0_acceptsItem 161 = .ok (.iconst 0, 1) := by decide +kernel
theorem dX0_acceptsItem_162 : decode cX0_acceptsItem 162 = .ok (.bipush 6, 2) := by decide +kernel
theorem dX0_acceptsItem_164 : decode cX0_acceptsItem 164 = .ok (.invokevirtual 54, 3) := by decide +kernel
theorem dX0_acceptsItem_167 : decode cX0_acceptsItem 167 = .ok (.ireturn, 1) := by decide +kernel
theorem dX0_acceptsItem_168 : decode cX0_acceptsItem 168 = .ok (.aload_n 0, 1) := by decide +kernel
theorem dX0_acceptsItem_169 : decode cX0_acceptsItem 169 = .ok (.invokevirtual 77, 3) := by decide +kernel
theorem dX0_acceptsItem_172 : decode cX0_acceptsItem 172 = .ok (.ireturn, 1) := by decide +kernel
theorem dX0_acceptsItem_173 : decode cX0_acceptsItem 173 = .ok (.aload_n 0, 1) := by decide +kernel
theorem dX0_acceptsItem_174 : decode cX0_acceptsItem 174 = .ok (.iload_n 1, 1) := by decide +kernel
theorem dX0_acceptsItem_175 : decode cX0_acceptsItem 175 = .ok (.iconst 1, 1) := by decide +kernel
theorem dX0_acceptsItem_176 : decode cX0_acceptsItem 176 = .ok (.invokevirtual 50, 3) := by decide +kernel
theorem dX0_acceptsItem_179 : decode cX0_acceptsItem 179 = .ok (.ireturn, 1) := by decide +kernel
theorem dX0_beginsSound_0 : decode cX0_beginsSound 0 = .ok (.iload_n 1, 1) := by decide +kernel
theorem dX0_beginsSound_1 : decode cX0_beginsSound 1 = .ok (.invokestatic 80, 3) := by decide +kernel
theorem dX0_beginsSound_4 : decode cX0_beginsSound 4 = .ok (.ifCond .ge 5, 3) := by decide +kernel
theorem dX0_beginsSound_7 : decode cX0_beginsSound 7 = .ok (.iconst 0, 1) := by decide +kernel
theorem dX0_beginsSound_8 : decode cX0_beginsSound 8 = .ok (.ireturn, 1) := by decide +kernel
theorem dX0_beginsSound_9 : decode cX0_beginsSound 9 = .ok (.aload_n 0, 1) := by decide +kernel
theorem dX0_beginsSound_10 : decode cX0_beginsSound 10 = .ok (.iconst 0, 1) := by decide +kernel
theorem dX0_beginsSound_11 : decode cX0_beginsSound 11 = .ok (.putfield 28, 3) := by decide +kernel
theorem dX0_beginsSound_14 : decode cX0_beginsSound 14 = .ok (.aload_n 0, 1) := by decide +kernel
theorem dX0_beginsSound_15 : decode cX0_beginsSound 15 = .ok (.iconst 1, 1) := by decide +kernel
theorem dX0_beginsSound_16 : decode cX0_beginsSound 16 = .ok (.putfield 39, 3) := by decide +kernel
theorem dX0_beginsSound_19 : decode cX0_beginsSound 19 = .ok (.aload_n 0, 1) := by decide +kernel
theorem dX0_beginsSound_20 : decode cX0_beginsSound 20 = .ok (.iconst 2, 1) := by decide +kernel
theorem dX0_beginsSound_21 : decode cX0_beginsSound 21 = .ok (.putfield 83, 3) := by decide +kernel
theorem dX0_beginsSound_24 : decode cX0_beginsSound 24 = .ok (.aload_n 0, 1) := by decide +kernel
theorem dX0_beginsSound_25 : decode cX0_beginsSound 25 = .ok (.iload_n 2, 1) := by decide +kernel
theorem dX0_beginsSound_26 : decode cX0_beginsSound 26 = .ok (.putfield 86, 3) := by decide +kernel
theorem dX0_beginsSound_29 : decode cX0_beginsSound 29 = .ok (.iconst 1, 1) := by decide +kernel
theorem dX0_beginsSound_30 : decode cX0_beginsSound 30 = .ok (.ireturn, 1) := by decide +kernel
theorem dX0_endSound_0 : decode cX0_endSound 0 = .ok (.aload_n 0, 1) := by decide +kernel
theorem dX0_endSound_1 : decode cX0_endSound 1 = .ok (.iconst 0, 1) := by decide +kernel
theorem dX0_endSound_2 : decode cX0_endSound 2 = .ok (.putfield 83, 3) := by decide +kernel
theorem dX0_endSound_5 : decode cX0_endSound 5 = .ok (.aload_n 0, 1) := by decide +kernel
theorem dX0_endSound_6 : decode cX0_endSound 6 = .ok (.iconst 0, 1) := by decide +kernel
theorem dX0_endSound_7 : decode cX0_endSound 7 = .ok (.putfield 86, 3) := by decide +kernel
theorem dX0_endSound_10 : decode cX0_endSound 10 = .ok (.return_, 1) := by decide +kernel
theorem dX0_addsDot_0 : decode cX0_addsDot 0 = .ok (.aload_n 0, 1) := by decide +kernel
theorem dX0_addsDot_1 : decode cX0_addsDot 1 = .ok (.getfield 83, 3) := by decide +kernel
theorem dX0_addsDot_4 : decode cX0_addsDot 4 = .ok (.iconst 1, 1) := by decide +kernel
theorem dX0_addsDot_5 : decode cX0_addsDot 5 = .ok (.if_icmp .ge 5, 3) := by decide +kernel
theorem dX0_addsDot_8 : decode cX0_addsDot 8 = .ok (.iconst 0, 1) := by decide +kernel
theorem dX0_addsDot_9 : decode cX0_addsDot 9 = .ok (.ireturn, 1) := by decide +kernel
theorem dX0_addsDot_10 : decode cX0_addsDot 10 = .ok (.aload_n 0, 1) := by decide +kernel
theorem dX0_addsDot_11 : decode cX0_addsDot 11 = .ok (.dup, 1) := by decide +kernel
theorem dX0_addsDot_12 : decode cX0_addsDot 12 = .ok (.getfield 83, 3) := by decide +kernel
theorem dX0_addsDot_15 : decode cX0_addsDot 15 = .ok (.iconst 1, 1) := by decide +kernel
theorem dX0_addsDot_16 : decode cX0_addsDot 16 = .ok (.isub, 1) := by decide +kernel
theorem dX0_addsDot_17 : decode cX0_addsDot 17 = .ok (.putfield 83, 3) := by decide +kernel
theorem dX0_addsDot_20 : decode cX0_addsDot 20 = .ok (.iconst 1, 1) := by decide +kernel
theorem dX0_addsDot_21 : decode cX0_addsDot 21 = .ok (.ireturn, 1) := by decide +kernel
theorem dX0_addsTie_0 : decode cX0_addsTie 0 = .ok (.aload_n 0, 1) := by decide +kernel
theorem dX0_addsTie_1 : decode cX0_addsTie 1 = .ok (.getfield 86, 3) := by decide +kernel
theorem dX0_addsTie_4 : decode cX0_addsTie 4 = .ok (.istore_n 1, 1) := by decide +kernel
theorem dX0_addsTie_5 : decode cX0_addsTie 5 = .ok (.aload_n 0, 1) := by decide +kernel
theorem dX0_addsTie_6 : decode cX0_addsTie 6 = .ok (.invokevirtual 42, 3) := by decide +kernel
theorem dX0_addsTie_9 : decode cX0_addsTie 9 = .ok (.iload_n 1, 1) := by decide +kernel
theorem dX0_addsTie_10 : decode cX0_addsTie 10 = .ok (.ireturn, 1) := by decide +kernel
theorem dX0_opensTuplet_0 : decode cX0_opensTuplet 0 = .ok (.aload_n 0, 1) := by decide +kernel
theorem dX0_opensTuplet_1 : decode cX0_opensTuplet 1 = .ok (.getfield 32, 3) := by decide +kernel
theorem dX0_opensTuplet_4 : decode cX0_opensTuplet 4 = .ok (.iconst 2, 1) := by decide +kernel
theorem dX0_opensTuplet_5 : decode cX0_opensTuplet 5 = .ok (.if_icmp .lt 5, 3) := by decide +kernel
theorem dX0_opensTuplet_8 : decode cX0_opensTuplet 8 = .ok (.iconst 0, 1) := by decide +kernel
theorem dX0_opensTuplet_9 : decode cX0_opensTuplet 9 = .ok (.ireturn, 1) := by decide +kernel
theorem dX0_opensTuplet_10 : decode cX0_opensTuplet 10 = .ok (.aload_n 0, 1) := by decide +kernel
theorem dX0_opensTuplet_11 : decode cX0_opensTuplet 11 = .ok (.dup, 1) := by decide +kernel
theorem dX0_opensTuplet_12 : decode cX0_opensTuplet 12 = .ok (.getfield 32, 3) := by decide +kernel
theorem dX0_opensTuplet_15 : decode cX0_opensTuplet 15 = .ok (.iconst 1, 1) := by decide +kernel
theorem dX0_opensTuplet_16 : decode cX0_opensTuplet 16 = .ok (.iadd, 1) := by decide +kernel
theorem dX0_opensTuplet_17 : decode cX0_opensTuplet 17 = .ok (.putfield 32, 3) := by decide +kernel
theorem dX0_opensTuplet_20 : decode cX0_opensTuplet 20 = .ok (.aload_n 0, 1) := by decide +kernel
theorem dX0_opensTuplet_21 : decode cX0_opensTuplet 21 = .ok (.iconst 0, 1) := by decide +kernel
theorem dX0_opensTuplet_22 : decode cX0_opensTuplet 22 = .ok (.putfield 39, 3) := by decide +kernel
theorem dX0_opensTuplet_25 : decode cX0_opensTuplet 25 = .ok (.aload_n 0, 1) := by decide +kernel
theorem dX0_opensTuplet_26 : decode cX0_opensTuplet 26 = .ok (.iconst 1, 1) := by decide +kernel
theorem dX0_opensTuplet_27 : decode cX0_opensTuplet 27 = .ok (.iconst 3, 1) := by decide +kernel
theorem dX0_opensTuplet_28 : decode cX0_opensTuplet 28 = .ok (.invokevirtual 54, 3) := by decide +kernel
theorem dX0_opensTuplet_31 : decode cX0_opensTuplet 31 = .ok (.ireturn, 1) := by decide +kernel
theorem dX0_closesTuplet_0 : decode cX0_closesTuplet 0 = .ok (.aload_n 0, 1) := by decide +kernel
theorem dX0_closesTuplet_1 : decode cX0_closesTuplet 1 = .ok (.getfield 32, 3) := by decide +kernel
theorem dX0_closesTuplet_4 : decode cX0_closesTuplet 4 = .ok (.iconst 1, 1) := by decide +kernel
theorem dX0_closesTuplet_5 : decode cX0_closesTuplet 5 = .ok (.if_icmp .lt 10, 3) := by decide +kernel
theorem dX0_closesTuplet_8 : decode cX0_closesTuplet 8 = .ok (.aload_n 0, 1) := by decide +kernel
theorem dX0_closesTuplet_9 : decode cX0_closesTuplet 9 = .ok (.getfield 39, 3) := by decide +kernel
theorem dX0_closesTuplet_12 : decode cX0_closesTuplet 12 = .ok (.ifCond .ne 5, 3) := by decide +kernel
theorem dX0_closesTuplet_15 : decode cX0_closesTuplet 15 = .ok (.iconst 0, 1) := by decide +kernel
theorem dX0_closesTuplet_16 : decode cX0_closesTuplet 16 = .ok (.ireturn, 1) := by decide +kernel
theorem dX0_closesTuplet_17 : decode cX0_closesTuplet 17 = .ok (.aload_n 0, 1) := by decide +kernel
theorem dX0_closesTuplet_18 : decode cX0_closesTuplet 18 = .ok (.dup, 1) := by decide +kernel
theorem dX0_closesTuplet_19 : decode cX0_closesTuplet 19 = .ok (.getfield 32, 3) := by decide +kernel
theorem dX0_closesTuplet_22 : decode cX0_closesTuplet 22 = .ok (.iconst 1, 1) := by decide +kernel
theorem dX0_closesTuplet_23 : decode cX0_closesTuplet 23 = .ok (.isub, 1) := by decide +kernel
theorem dX0_closesTuplet_24 : decode cX0_closesTuplet 24 = .ok (.putfield 32, 3) := by decide +kernel
theorem dX0_closesTuplet_27 : decode cX0_closesTuplet 27 = .ok (.iconst 1, 1) := by decide +kernel
theorem dX0_closesTuplet_28 : decode cX0_closesTuplet 28 = .ok (.ireturn, 1) := by decide +kernel
theorem dX0_opensRepeat_0 : decode cX0_opensRepeat 0 = .ok (.aload_n 0, 1) := by decide +kernel
theorem dX0_opensRepeat_1 : decode cX0_opensRepeat 1 = .ok (.getfield 32, 3) := by decide +kernel
theorem dX0_opensRepeat_4 : decode cX0_opensRepeat 4 = .ok (.ifCond .gt 10, 3) := by decide +kernel
theorem dX0_opensRepeat_7 : decode cX0_opensRepeat 7 = .ok (.aload_n 0, 1) := by decide +kernel
theorem dX0_opensRepeat_8 : decode cX0_opensRepeat 8 = .ok (.getfield 35, 3) := by decide +kernel
theorem dX0_opensRepeat_11 : decode cX0_opensRepeat 11 = .ok (.ifCond .eq 5, 3) := by decide +kernel
theorem dX0_opensRepeat_14 : decode cX0_opensRepeat 14 = .ok (.iconst 0, 1) := by decide +kernel
theorem dX0_opensRepeat_15 : decode cX0_opensRepeat 15 = .ok (.ireturn, 1) := by decide +kernel
theorem dX0_opensRepeat_16 : decode cX0_opensRepeat 16 = .ok (.aload_n 0, 1) := by decide +kernel
theorem dX0_opensRepeat_17 : decode cX0_opensRepeat 17 = .ok (.iconst 1, 1) := by decide +kernel
theorem dX0_opensRepeat_18 : decode cX0_opensRepeat 18 = .ok (.putfield 35, 3) := by decide +kernel
theorem dX0_opensRepeat_21 : decode cX0_opensRepeat 21 = .ok (.iconst 1, 1) := by decide +kernel
theorem dX0_opensRepeat_22 : decode cX0_opensRepeat 22 = .ok (.ireturn, 1) := by decide +kernel
theorem dX0_closesRepeat_0 : decode cX0_closesRepeat 0 = .ok (.aload_n 0, 1) := by decide +kernel
theorem dX0_closesRepeat_1 : decode cX0_closesRepeat 1 = .ok (.getfield 32, 3) := by decide +kernel
theorem dX0_closesRepeat_4 : decode cX0_closesRepeat 4 = .ok (.ifCond .gt 10, 3) := by decide +kernel
theorem dX0_closesRepeat_7 : decode cX0_closesRepeat 7 = .ok (.aload_n 0, 1) := by decide +kernel
theorem dX0_closesRepeat_8 : decode cX0_closesRepeat 8 = .ok (.getfield 35, 3) := by decide +kernel
theorem dX0_closesRepeat_11 : decode cX0_closesRepeat 11 = .ok (.ifCond .ne 5, 3) := by decide +kernel
theorem dX0_closesRepeat_14 : decode cX0_closesRepeat 14 = .ok (.iconst 0, 1) := by decide +kernel
theorem dX0_closesRepeat_15 : decode cX0_closesRepeat 15 = .ok (.ireturn, 1) := by decide +kernel
theorem dX0_closesRepeat_16 : decode cX0_closesRepeat 16 = .ok (.aload_n 0, 1) := by decide +kernel
theorem dX0_closesRepeat_17 : decode cX0_closesRepeat 17 = .ok (.iconst 0, 1) := by decide +kernel
theorem dX0_closesRepeat_18 : decode cX0_closesRepeat 18 = .ok (.putfield 35, 3) := by decide +kernel
theorem dX0_closesRepeat_21 : decode cX0_closesRepeat 21 = .ok (.aload_n 0, 1) := by decide +kernel
theorem dX0_closesRepeat_22 : decode cX0_closesRepeat 22 = .ok (.iconst 1, 1) := by decide +kernel
theorem dX0_closesRepeat_23 : decode cX0_closesRepeat 23 = .ok (.bipush 8, 2) := by decide +kernel
theorem dX0_closesRepeat_25 : decode cX0_closesRepeat 25 = .ok (.invokevirtual 54, 3) := by decide +kernel
theorem dX0_closesRepeat_28 : decode cX0_closesRepeat 28 = .ok (.ireturn, 1) := by decide +kernel
theorem dX1_halvings_0 : decode cX1_halvings 0 = .ok (.iload_n 0, 1) := by decide +kernel
theorem dX1_halvings_1 : decode cX1_halvings 1 = .ok (.bipush 32, 2) := by decide +kernel
theorem dX1_halvings_3 : decode cX1_halvings 3 = .ok (.if_icmp .lt 9, 3) := by decide +kernel
theorem dX1_halvings_6 : decode cX1_halvings 6 = .ok (.iload_n 0, 1) := by decide +kernel
theorem dX1_halvings_7 : decode cX1_halvings 7 = .ok (.bipush 126, 2) := by decide +kernel
theorem dX1_halvings_9 : decode cX1_halvings 9 = .ok (.if_icmp .le 7, 3) := by decide +kernel
theorem dX1_halvings_12 : decode cX1_halvings 12 = .ok (.iconst (-1), 1) := by decide +kernel
theorem dX1_halvings_13 : decode cX1_halvings 13 = .ok (.goto 10, 3) := by decide +kernel
theorem dX1_halvings_16 : decode cX1_halvings 16 = .ok (.ldc 9, 2) := by decide +kernel
theorem dX1_halvings_18 : decode cX1_halvings 18 = .ok (.iload_n 0, 1) := by decide +kernel
theorem dX1_halvings_19 : decode cX1_halvings 19 = .ok (.i2c, 1) := by decide +kernel
theorem dX1_halvings_20 : decode cX1_halvings 20 = .ok (.invokevirtual 11, 3) := by decide +kernel
theorem dX1_halvings_23 : decode cX1_halvings 23 = .ok (.ireturn, 1) := by decide +kernel
theorem dX1_digit_0 : decode cX1_digit 0 = .ok (.iload_n 0, 1) := by decide +kernel
theorem dX1_digit_1 : decode cX1_digit 1 = .ok (.bipush 48, 2) := by decide +kernel
theorem dX1_digit_3 : decode cX1_digit 3 = .ok (.if_icmp .lt 16, 3) := by decide +kernel
theorem dX1_digit_6 : decode cX1_digit 6 = .ok (.iload_n 0, 1) := by decide +kernel
theorem dX1_digit_7 : decode cX1_digit 7 = .ok (.bipush 57, 2) := by decide +kernel
theorem dX1_digit_9 : decode cX1_digit 9 = .ok (.if_icmp .gt 10, 3) := by decide +kernel
theorem dX1_digit_12 : decode cX1_digit 12 = .ok (.iload_n 0, 1) := by decide +kernel
theorem dX1_digit_13 : decode cX1_digit 13 = .ok (.bipush 48, 2) := by decide +kernel
theorem dX1_digit_15 : decode cX1_digit 15 = .ok (.isub, 1) := by decide +kernel
theorem dX1_digit_16 : decode cX1_digit 16 = .ok (.goto 4, 3) := by decide +kernel
theorem dX1_digit_19 : decode cX1_digit 19 = .ok (.iconst (-1), 1) := by decide +kernel
theorem dX1_digit_20 : decode cX1_digit 20 = .ok (.ireturn, 1) := by decide +kernel
theorem dX2_init_0 : decode cX2_init 0 = .ok (.aload_n 0, 1) := by decide +kernel
theorem dX2_init_1 : decode cX2_init 1 = .ok (.invokespecial 3, 3) := by decide +kernel
theorem dX2_init_4 : decode cX2_init 4 = .ok (.aload_n 0, 1) := by decide +kernel
theorem dX2_init_5 : decode cX2_init 5 = .ok (.iconst 4, 1) := by decide +kernel
theorem dX2_init_6 : decode cX2_init 6 = .ok (.newarray .int, 2) := by decide +kernel
theorem dX2_init_8 : decode cX2_init 8 = .ok (.putfield 9, 3) := by decide +kernel
theorem dX2_init_11 : decode cX2_init 11 = .ok (.return_, 1) := by decide +kernel
theorem dX2_now_0 : decode cX2_now 0 = .ok (.aload_n 0, 1) := by decide +kernel
theorem dX2_now_1 : decode cX2_now 1 = .ok (.getfield 15, 3) := by decide +kernel
theorem dX2_now_4 : decode cX2_now 4 = .ok (.lreturn, 1) := by decide +kernel
theorem dX2_set_0 : decode cX2_set 0 = .ok (.aload_n 0, 1) := by decide +kernel
theorem dX2_set_1 : decode cX2_set 1 = .ok (.getfield 19, 3) := by decide +kernel
theorem dX2_set_4 : decode cX2_set 4 = .ok (.ireturn, 1) := by decide +kernel
theorem dX2_start_0 : decode cX2_start 0 = .ok (.iconst 0, 1) := by decide +kernel
theorem dX2_start_1 : decode cX2_start 1 = .ok (.istore_n 1, 1) := by decide +kernel
theorem dX2_start_2 : decode cX2_start 2 = .ok (.iload_n 1, 1) := by decide +kernel
theorem dX2_start_3 : decode cX2_start 3 = .ok (.iconst 4, 1) := by decide +kernel
theorem dX2_start_4 : decode cX2_start 4 = .ok (.if_icmp .ge 16, 3) := by decide +kernel
theorem dX2_start_7 : decode cX2_start 7 = .ok (.aload_n 0, 1) := by decide +kernel
theorem dX2_start_8 : decode cX2_start 8 = .ok (.getfield 9, 3) := by decide +kernel
theorem dX2_start_11 : decode cX2_start 11 = .ok (.iload_n 1, 1) := by decide +kernel
theorem dX2_start_12 : decode cX2_start 12 = .ok (.iconst 0, 1) := by decide +kernel
theorem dX2_start_13 : decode cX2_start 13 = .ok (.iastore, 1) := by decide +kernel
theorem dX2_start_14 : decode cX2_start 14 = .ok (.iinc 1 1, 3) := by decide +kernel
theorem dX2_start_17 : decode cX2_start 17 = .ok (.goto (-15), 3) := by decide +kernel
theorem dX2_start_20 : decode cX2_start 20 = .ok (.aload_n 0, 1) := by decide +kernel
theorem dX2_start_21 : decode cX2_start 21 = .ok (.lconst 0, 1) := by decide +kernel
theorem dX2_start_22 : decode cX2_start 22 = .ok (.putfield 15, 3) := by decide +kernel
theorem dX2_start_25 : decode cX2_start 25 = .ok (.aload_n 0, 1) := by decide +kernel
theorem dX2_start_26 : decode cX2_start 26 = .ok (.iconst 0, 1) := by decide +kernel
theorem dX2_start_27 : decode cX2_start 27 = .ok (.putfield 19, 3) := by decide +kernel
theorem dX2_start_30 : decode cX2_start 30 = .ok (.return_, 1) := by decide +kernel
theorem dX2_advance_0 : decode cX2_advance 0 = .ok (.aload_n 0, 1) := by decide +kernel
theorem dX2_advance_1 : decode cX2_advance 1 = .ok (.iconst 0, 1) := by decide +kernel
theorem dX2_advance_2 : decode cX2_advance 2 = .ok (.putfield 19, 3) := by decide +kernel
theorem dX2_advance_5 : decode cX2_advance 5 = .ok (.iconst 0, 1) := by decide +kernel
theorem dX2_advance_6 : decode cX2_advance 6 = .ok (.istore_n 2, 1) := by decide +kernel
theorem dX2_advance_7 : decode cX2_advance 7 = .ok (.iload_n 2, 1) := by decide +kernel
theorem dX2_advance_8 : decode cX2_advance 8 = .ok (.iconst 4, 1) := by decide +kernel
theorem dX2_advance_9 : decode cX2_advance 9 = .ok (.if_icmp .ge 50, 3) := by decide +kernel
theorem dX2_advance_12 : decode cX2_advance 12 = .ok (.iload_n 2, 1) := by decide +kernel
theorem dX2_advance_13 : decode cX2_advance 13 = .ok (.aload_n 1, 1) := by decide +kernel
theorem dX2_advance_14 : decode cX2_advance 14 = .ok (.arraylength, 1) := by decide +kernel
theorem dX2_advance_15 : decode cX2_advance 15 = .ok (.if_icmp .ge 44, 3) := by decide +kernel
theorem dX2_advance_18 : decode cX2_advance 18 = .ok (.aload_n 1, 1) := by decide +kernel
theorem dX2_advance_19 : decode cX2_advance 19 = .ok (.iload_n 2, 1) := by decide +kernel
theorem dX2_advance_20 : decode cX2_advance 20 = .ok (.aaload, 1) := by decide +kernel
theorem dX2_advance_21 : decode cX2_advance 21 = .ok (.getfield 23, 3) := by decide +kernel
theorem dX2_advance_24 : decode cX2_advance 24 = .ok (.astore_n 3, 1) := by decide +kernel
theorem dX2_advance_25 : decode cX2_advance 25 = .ok (.aload_n 3, 1) := by decide +kernel
theorem dX2_advance_26 : decode cX2_advance 26 = .ok (.aload_n 0, 1) := by decide +kernel
theorem dX2_advance_27 : decode cX2_advance 27 = .ok (.getfield 9, 3) := by decide +kernel
theorem dX2_advance_30 : decode cX2_advance 30 = .ok (.iload_n 2, 1) := by decide +kernel
theorem dX2_advance_31 : decode cX2_advance 31 = .ok (.iaload, 1) := by decide +kernel
theorem dX2_advance_32 : decode cX2_advance 32 = .ok (.invokevirtual 29, 3) := by decide +kernel
theorem dX2_advance_35 : decode cX2_advance 35 = .ok (.ifCond .eq 18, 3) := by decide +kernel
theorem dX2_advance_38 : decode cX2_advance 38 = .ok (.aload_n 0, 1) := by decide +kernel
theorem dX2_advance_39 : decode cX2_advance 39 = .ok (.iload_n 2, 1) := by decide +kernel
theorem dX2_advance_40 : decode cX2_advance 40 = .ok (.aload_n 3, 1) := by decide +kernel
theorem dX2_advance_41 : decode cX2_advance 41 = .ok (.aload_n 0, 1) := by decide +kernel
theorem dX2_advance_42 : decode cX2_advance 42 = .ok (.getfield 9, 3) := by decide +kernel
theorem dX2_advance_45 : decode cX2_advance 45 = .ok (.iload_n 2, 1) := by decide +kernel
theorem dX2_advance_46 : decode cX2_advance 46 = .ok (.iaload, 1) := by decide +kernel
theorem dX2_advance_47 : decode cX2_advance 47 = .ok (.invokevirtual 35, 3) := by decide +kernel
theorem dX2_advance_50 : decode cX2_advance 50 = .ok (.invokevirtual 39, 3) := by decide +kernel
theorem dX2_advance_53 : decode cX2_advance 53 = .ok (.iinc 2 1, 3) := by decide +kernel
theorem dX2_advance_56 : decode cX2_advance 56 = .ok (.goto (-49), 3) := by decide +kernel
theorem dX2_advance_59 : decode cX2_advance 59 = .ok (.iconst 0, 1) := by decide +kernel
theorem dX2_advance_60 : decode cX2_advance 60 = .ok (.istore_n 2, 1) := by decide +kernel
theorem dX2_advance_61 : decode cX2_advance 61 = .ok (.iload_n 2, 1) := by decide +kernel
theorem dX2_advance_62 : decode cX2_advance 62 = .ok (.iconst 4, 1) := by decide +kernel
theorem dX2_advance_63 : decode cX2_advance 63 = .ok (.if_icmp .ge 26, 3) := by decide +kernel
theorem dX2_advance_66 : decode cX2_advance 66 = .ok (.aload_n 0, 1) := by decide +kernel
theorem dX2_advance_67 : decode cX2_advance 67 = .ok (.getfield 9, 3) := by decide +kernel
theorem dX2_advance_70 : decode cX2_advance 70 = .ok (.iload_n 2, 1) := by decide +kernel
theorem dX2_advance_71 : decode cX2_advance 71 = .ok (.dup2, 1) := by decide +kernel
theorem dX2_advance_72 : decode cX2_advance 72 = .ok (.iaload, 1) := by decide +kernel
theorem dX2_advance_73 : decode cX2_advance 73 = .ok (.aload_n 0, 1) := by decide +kernel
theorem dX2_advance_74 : decode cX2_advance 74 = .ok (.getfield 19, 3) := by decide +kernel
theorem dX2_advance_77 : decode cX2_advance 77 = .ok (.iload_n 2, 1) := by decide +kernel
theorem dX2_advance_78 : decode cX2_advance 78 = .ok (.ishr, 1) := by decide +kernel
theorem dX2_advance_79 : decode cX2_advance 79 = .ok (.iconst 1, 1) := by decide +kernel
theorem dX2_advance_80 : decode cX2_advance 80 = .ok (.iand, 1) := by decide +kernel
theorem dX2_advance_81 : decode cX2_advance 81 = .ok (.iadd, 1) := by decide +kernel
theorem dX2_advance_82 : decode cX2_advance 82 = .ok (.iastore, 1) := by decide +kernel
theorem dX2_advance_83 : decode cX2_advance 83 = .ok (.iinc 2 1, 3) := by decide +kernel
theorem dX2_advance_86 : decode cX2_advance 86 = .ok (.goto (-25), 3) := by decide +kernel
theorem dX2_advance_89 : decode cX2_advance 89 = .ok (.aload_n 0, 1) := by decide +kernel
theorem dX2_advance_90 : decode cX2_advance 90 = .ok (.getfield 19, 3) := by decide +kernel
theorem dX2_advance_93 : decode cX2_advance 93 = .ok (.ifCond .eq 7, 3) := by decide +kernel
theorem dX2_advance_96 : decode cX2_advance 96 = .ok (.iconst 1, 1) := by decide +kernel
theorem dX2_advance_97 : decode cX2_advance 97 = .ok (.goto 4, 3) := by decide +kernel
theorem dX2_advance_100 : decode cX2_advance 100 = .ok (.iconst 0, 1) := by decide +kernel
theorem dX2_advance_101 : decode cX2_advance 101 = .ok (.ireturn, 1) := by decide +kernel
theorem dX2_offer_0 : decode cX2_offer 0 = .ok (.aload_n 0, 1) := by decide +kernel
theorem dX2_offer_1 : decode cX2_offer 1 = .ok (.getfield 19, 3) := by decide +kernel
theorem dX2_offer_4 : decode cX2_offer 4 = .ok (.ifCond .eq 12, 3) := by decide +kernel
theorem dX2_offer_7 : decode cX2_offer 7 = .ok (.lload_n 2, 1) := by decide +kernel
theorem dX2_offer_8 : decode cX2_offer 8 = .ok (.aload_n 0, 1) := by decide +kernel
theorem dX2_offer_9 : decode cX2_offer 9 = .ok (.getfield 15, 3) := by decide +kernel
theorem dX2_offer_12 : decode cX2_offer 12 = .ok (.lcmp, 1) := by decide +kernel
theorem dX2_offer_13 : decode cX2_offer 13 = .ok (.ifCond .ge 18, 3) := by decide +kernel
theorem dX2_offer_16 : decode cX2_offer 16 = .ok (.aload_n 0, 1) := by decide +kernel
theorem dX2_offer_17 : decode cX2_offer 17 = .ok (.lload_n 2, 1) := by decide +kernel
theorem dX2_offer_18 : decode cX2_offer 18 = .ok (.putfield 15, 3) := by decide +kernel
theorem dX2_offer_21 : decode cX2_offer 21 = .ok (.aload_n 0, 1) := by decide +kernel
theorem dX2_offer_22 : decode cX2_offer 22 = .ok (.iconst 1, 1) := by decide +kernel
theorem dX2_offer_23 : decode cX2_offer 23 = .ok (.iload_n 1, 1) := by decide +kernel
theorem dX2_offer_24 : decode cX2_offer 24 = .ok (.ishl, 1) := by decide +kernel
theorem dX2_offer_25 : decode cX2_offer 25 = .ok (.putfield 19, 3) := by decide +kernel
theorem dX2_offer_28 : decode cX2_offer 28 = .ok (.goto 24, 3) := by decide +kernel
theorem dX2_offer_31 : decode cX2_offer 31 = .ok (.lload_n 2, 1) := by decide +kernel
theorem dX2_offer_32 : decode cX2_offer 32 = .ok (.aload_n 0, 1) := by decide +kernel
theorem dX2_offer_33 : decode cX2_offer 33 = .ok (.getfield 15, 3) := by decide +kernel
theorem dX2_offer_36 : decode cX2_offer 36 = .ok (.lcmp, 1) := by decide +kernel
theorem dX2_offer_37 : decode cX2_offer 37 = .ok (.ifCond .ne 15, 3) := by decide +kernel
theorem dX2_offer_40 : decode cX2_offer 40 = .ok (.aload_n 0, 1) := by decide +kernel
theorem dX2_offer_41 : decode cX2_offer 41 = .ok (.dup, 1) := by decide +kernel
theorem dX2_offer_42 : decode cX2_offer 42 = .ok (.getfield 19, 3) := by decide +kernel
theorem dX2_offer_45 : decode cX2_offer 45 = .ok (.iconst 1, 1) := by decide +kernel
theorem dX2_offer_46 : decode cX2_offer 46 = .ok (.iload_n 1, 1) := by decide +kernel
theorem dX2_offer_47 : decode cX2_offer 47 = .ok (.ishl, 1) := by decide +kernel
theorem dX2_offer_48 : decode cX2_offer 48 = .ok (.ior, 1) := by decide +kernel
theorem dX2_offer_49 : decode cX2_offer 49 = .ok (.putfield 19, 3) := by decide +kernel
theorem dX2_offer_52 : decode cX2_offer 52 = .ok (.return_, 1) := by decide +kernel
theorem dX3_init_0 : decode cX3_init 0 = .ok (.aload_n 0, 1) := by decide +kernel
theorem dX3_init_1 : decode cX3_init 1 = .ok (.invokespecial 3, 3) := by decide +kernel
theorem dX3_init_4 : decode cX3_init 4 = .ok (.aload_n 0, 1) := by decide +kernel
theorem dX3_init_5 : decode cX3_init 5 = .ok (.new 9, 3) := by decide +kernel
theorem dX3_init_8 : decode cX3_init 8 = .ok (.dup, 1) := by decide +kernel
theorem dX3_init_9 : decode cX3_init 9 = .ok (.bipush 100, 2) := by decide +kernel
theorem dX3_init_11 : decode cX3_init 11 = .ok (.invokespecial 11, 3) := by decide +kernel
theorem dX3_init_14 : decode cX3_init 14 = .ok (.putfield 14, 3) := by decide +kernel
theorem dX3_init_17 : decode cX3_init 17 = .ok (.aload_n 0, 1) := by decide +kernel
theorem dX3_init_18 : decode cX3_init 18 = .ok (.new 9, 3) := by decide +kernel
theorem dX3_init_21 : decode cX3_init 21 = .ok (.dup, 1) := by decide +kernel
theorem dX3_init_22 : decode cX3_init 22 = .ok (.sipush 900, 3) := by decide +kernel
theorem dX3_init_25 : decode cX3_init 25 = .ok (.invokespecial 11, 3) := by decide +kernel
theorem dX3_init_28 : decode cX3_init 28 = .ok (.putfield 20, 3) := by decide +kernel
theorem dX3_init_31 : decode cX3_init 31 = .ok (.aload_n 0, 1) := by decide +kernel
theorem dX3_init_32 : decode cX3_init 32 = .ok (.new 23, 3) := by decide +kernel
theorem dX3_init_35 : decode cX3_init 35 = .ok (.dup, 1) := by decide +kernel
theorem dX3_init_36 : decode cX3_init 36 = .ok (.invokespecial 25, 3) := by decide +kernel
theorem dX3_init_39 : decode cX3_init 39 = .ok (.putfield 26, 3) := by decide +kernel
theorem dX3_init_42 : decode cX3_init 42 = .ok (.return_, 1) := by decide +kernel
theorem dX3_take_0 : decode cX3_take 0 = .ok (.aload_n 0, 1) := by decide +kernel
theorem dX3_take_1 : decode cX3_take 1 = .ok (.getfield 14, 3) := by decide +kernel
theorem dX3_take_4 : decode cX3_take 4 = .ok (.aload_n 1, 1) := by decide +kernel
theorem dX3_take_5 : decode cX3_take 5 = .ok (.invokevirtual 30, 3) := by decide +kernel
theorem dX3_take_8 : decode cX3_take 8 = .ok (.aload_n 0, 1) := by decide +kernel
theorem dX3_take_9 : decode cX3_take 9 = .ok (.getfield 14, 3) := by decide +kernel
theorem dX3_take_12 : decode cX3_take 12 = .ok (.aload_n 0, 1) := by decide +kernel
theorem dX3_take_13 : decode cX3_take 13 = .ok (.getfield 20, 3) := by decide +kernel
theorem dX3_take_16 : decode cX3_take 16 = .ok (.invokestatic 34, 3) := by decide +kernel
theorem dX3_take_19 : decode cX3_take 19 = .ok (.aload_n 0, 1) := by decide +kernel
theorem dX3_take_20 : decode cX3_take 20 = .ok (.getfield 26, 3) := by decide +kernel
theorem dX3_take_23 : decode cX3_take 23 = .ok (.aload_n 0, 1) := by decide +kernel
theorem dX3_take_24 : decode cX3_take 24 = .ok (.getfield 20, 3) := by decide +kernel
theorem dX3_take_27 : decode cX3_take 27 = .ok (.invokevirtual 40, 3) := by decide +kernel
theorem dX3_take_30 : decode cX3_take 30 = .ok (.return_, 1) := by decide +kernel
theorem dX4_init_0 : decode cX4_init 0 = .ok (.aload_n 0, 1) := by decide +kernel
theorem dX4_init_1 : decode cX4_init 1 = .ok (.invokespecial 3, 3) := by decide +kernel
theorem dX4_init_4 : decode cX4_init 4 = .ok (.aload_n 0, 1) := by decide +kernel
theorem dX4_init_5 : decode cX4_init 5 = .ok (.sipush 300, 3) := by decide +kernel
theorem dX4_init_8 : decode cX4_init 8 = .ok (.newarray .long, 2) := by decide +kernel
theorem dX4_init_10 : decode cX4_init 10 = .ok (.putfield 9, 3) := by decide +kernel
theorem dX4_init_13 : decode cX4_init 13 = .ok (.aload_n 0, 1) := by decide +kernel
theorem dX4_init_14 : decode cX4_init 14 = .ok (.sipush 300, 3) := by decide +kernel
theorem dX4_init_17 : decode cX4_init 17 = .ok (.newarray .long, 2) := by decide +kernel
theorem dX4_init_19 : decode cX4_init 19 = .ok (.putfield 15, 3) := by decide +kernel
theorem dX4_init_22 : decode cX4_init 22 = .ok (.aload_n 0, 1) := by decide +kernel
theorem dX4_init_23 : decode cX4_init 23 = .ok (.sipush 300, 3) := by decide +kernel
theorem dX4_init_26 : decode cX4_init 26 = .ok (.newarray .int, 2) := by decide +kernel
theorem dX4_init_28 : decode cX4_init 28 = .ok (.putfield 18, 3) := by decide +kernel
theorem dX4_init_31 : decode cX4_init 31 = .ok (.aload_n 0, 1) := by decide +kernel
theorem dX4_init_32 : decode cX4_init 32 = .ok (.sipush 300, 3) := by decide +kernel
theorem dX4_init_35 : decode cX4_init 35 = .ok (.newarray .int, 2) := by decide +kernel
theorem dX4_init_37 : decode cX4_init 37 = .ok (.putfield 22, 3) := by decide +kernel
theorem dX4_init_40 : decode cX4_init 40 = .ok (.aload_n 0, 1) := by decide +kernel
theorem dX4_init_41 : decode cX4_init 41 = .ok (.sipush 300, 3) := by decide +kernel
theorem dX4_init_44 : decode cX4_init 44 = .ok (.newarray .boolean, 2) := by decide +kernel
theorem dX4_init_46 : decode cX4_init 46 = .ok (.putfield 25, 3) := by decide +kernel
theorem dX4_init_49 : decode cX4_init 49 = .ok (.aload_n 0, 1) := by decide +kernel
theorem dX4_init_50 : decode cX4_init 50 = .ok (.sipush 901, 3) := by decide +kernel
theorem dX4_init_53 : decode cX4_init 53 = .ok (.newarray .long, 2) := by decide +kernel
theorem dX4_init_55 : decode cX4_init 55 = .ok (.putfield 29, 3) := by decide +kernel
theorem dX4_init_58 : decode cX4_init 58 = .ok (.aload_n 0, 1) := by decide +kernel
theorem dX4_init_59 : decode cX4_init 59 = .ok (.new 32, 3) := by decide +kernel
theorem dX4_init_62 : decode cX4_init 62 = .ok (.dup, 1) := by decide +kernel
theorem dX4_init_63 : decode cX4_init 63 = .ok (.invokespecial 34, 3) := by decide +kernel
theorem dX4_init_66 : decode cX4_init 66 = .ok (.putfield 35, 3) := by decide +kernel
theorem dX4_init_69 : decode cX4_init 69 = .ok (.aload_n 0, 1) := by decide +kernel
theorem dX4_init_70 : decode cX4_init 70 = .ok (.invokevirtual 39, 3) := by decide +kernel
theorem dX4_init_73 : decode cX4_init 73 = .ok (.return_, 1) := by decide +kernel
theorem dX4_count_0 : decode cX4_count 0 = .ok (.aload_n 0, 1) := by decide +kernel
theorem dX4_count_1 : decode cX4_count 1 = .ok (.getfield 42, 3) := by decide +kernel
theorem dX4_count_4 : decode cX4_count 4 = .ok (.ireturn, 1) := by decide +kernel
theorem dX4_barCount_0 : decode cX4_barCount 0 = .ok (.aload_n 0, 1) := by decide +kernel
theorem dX4_barCount_1 : decode cX4_barCount 1 = .ok (.getfield 46, 3) := by decide +kernel
theorem dX4_barCount_4 : decode cX4_barCount 4 = .ok (.ireturn, 1) := by decide +kernel
theorem dX4_total_0 : decode cX4_total 0 = .ok (.aload_n 0, 1) := by decide +kernel
theorem dX4_total_1 : decode cX4_total 1 = .ok (.getfield 49, 3) := by decide +kernel
theorem dX4_total_4 : decode cX4_total 4 = .ok (.lreturn, 1) := by decide +kernel
theorem dX4_hasEvent_0 : decode cX4_hasEvent 0 = .ok (.iload_n 1, 1) := by decide +kernel
theorem dX4_hasEvent_1 : decode cX4_hasEvent 1 = .ok (.ifCond .lt 15, 3) := by decide +kernel
theorem dX4_hasEvent_4 : decode cX4_hasEvent 4 = .ok (.iload_n 1, 1) := by decide +kernel
theorem dX4_hasEvent_5 : decode cX4_hasEvent 5 = .ok (.aload_n 0, 1) := by decide +kernel
theorem dX4_hasEvent_6 : decode cX4_hasEvent 6 = .ok (.getfield 42, 3) := by decide +kernel
theorem dX4_hasEvent_9 : decode cX4_hasEvent 9 = .ok (.if_icmp .ge 7, 3) := by decide +kernel
theorem dX4_hasEvent_12 : decode cX4_hasEvent 12 = .ok (.iconst 1, 1) := by decide +kernel
theorem dX4_hasEvent_13 : decode cX4_hasEvent 13 = .ok (.goto 4, 3) := by decide +kernel
theorem dX4_hasEvent_16 : decode cX4_hasEvent 16 = .ok (.iconst 0, 1) := by decide +kernel
theorem dX4_hasEvent_17 : decode cX4_hasEvent 17 = .ok (.ireturn, 1) := by decide +kernel
theorem dX4_hasBar_0 : decode cX4_hasBar 0 = .ok (.iload_n 1, 1) := by decide +kernel
theorem dX4_hasBar_1 : decode cX4_hasBar 1 = .ok (.ifCond .lt 15, 3) := by decide +kernel
theorem dX4_hasBar_4 : decode cX4_hasBar 4 = .ok (.iload_n 1, 1) := by decide +kernel
theorem dX4_hasBar_5 : decode cX4_hasBar 5 = .ok (.aload_n 0, 1) := by decide +kernel
theorem dX4_hasBar_6 : decode cX4_hasBar 6 = .ok (.getfield 46, 3) := by decide +kernel
theorem dX4_hasBar_9 : decode cX4_hasBar 9 = .ok (.if_icmp .ge 7, 3) := by decide +kernel
theorem dX4_hasBar_12 : decode cX4_hasBar 12 = .ok (.iconst 1, 1) := by decide +kernel
theorem dX4_hasBar_13 : decode cX4_hasBar 13 = .ok (.goto 4, 3) := by decide +kernel
theorem dX4_hasBar_16 : decode cX4_hasBar 16 = .ok (.iconst 0, 1) := by decide +kernel
theorem dX4_hasBar_17 : decode cX4_hasBar 17 = .ok (.ireturn, 1) := by decide +kernel
theorem dX4_begin_0 : decode cX4_begin 0 = .ok (.aload_n 0, 1) := by decide +kernel
theorem dX4_begin_1 : decode cX4_begin 1 = .ok (.iload_n 1, 1) := by decide +kernel
theorem dX4_begin_2 : decode cX4_begin 2 = .ok (.invokevirtual 53, 3) := by decide +kernel
theorem dX4_begin_5 : decode cX4_begin 5 = .ok (.ifCond .eq 12, 3) := by decide +kernel
theorem dX4_begin_8 : decode cX4_begin 8 = .ok (.aload_n 0, 1) := by decide +kernel
theorem dX4_begin_9 : decode cX4_begin 9 = .ok (.getfield 9, 3) := by decide +kernel
theorem dX4_begin_12 : decode cX4_begin 12 = .ok (.iload_n 1, 1) := by decide +kernel
theorem dX4_begin_13 : decode cX4_begin 13 = .ok (.laload, 1) := by decide +kernel
theorem dX4_begin_14 : decode cX4_begin 14 = .ok (.goto 4, 3) := by decide +kernel
theorem dX4_begin_17 : decode cX4_begin 17 = .ok (.lconst 0, 1) := by decide +kernel
theorem dX4_begin_18 : decode cX4_begin 18 = .ok (.lreturn, 1) := by decide +kernel
theorem dX4_end_0 : decode cX4_end 0 = .ok (.aload_n 0, 1) := by decide +kernel
theorem dX4_end_1 : decode cX4_end 1 = .ok (.iload_n 1, 1) := by decide +kernel
theorem dX4_end_2 : decode cX4_end 2 = .ok (.invokevirtual 53, 3) := by decide +kernel
theorem dX4_end_5 : decode cX4_end 5 = .ok (.ifCond .eq 12, 3) := by decide +kernel
theorem dX4_end_8 : decode cX4_end 8 = .ok (.aload_n 0, 1) := by decide +kernel
theorem dX4_end_9 : decode cX4_end 9 = .ok (.getfield 15, 3) := by decide +kernel
theorem dX4_end_12 : decode cX4_end 12 = .ok (.iload_n 1, 1) := by decide +kernel
theorem dX4_end_13 : decode cX4_end 13 = .ok (.laload, 1) := by decide +kernel
theorem dX4_end_14 : decode cX4_end 14 = .ok (.goto 4, 3) := by decide +kernel
theorem dX4_end_17 : decode cX4_end 17 = .ok (.lconst 0, 1) := by decide +kernel
theorem dX4_end_18 : decode cX4_end 18 = .ok (.lreturn, 1) := by decide +kernel
theorem dX4_notesOf_0 : decode cX4_notesOf 0 = .ok (.aload_n 0, 1) := by decide +kernel
theorem dX4_notesOf_1 : decode cX4_notesOf 1 = .ok (.iload_n 1, 1) := by decide +kernel
theorem dX4_notesOf_2 : decode cX4_notesOf 2 = .ok (.invokevirtual 53, 3) := by decide +kernel
theorem dX4_notesOf_5 : decode cX4_notesOf 5 = .ok (.ifCond .eq 12, 3) := by decide +kernel
theorem dX4_notesOf_8 : decode cX4_notesOf 8 = .ok (.aload_n 0, 1) := by decide +kernel
theorem dX4_notesOf_9 : decode cX4_notesOf 9 = .ok (.getfield 18, 3) := by decide +kernel
theorem dX4_notesOf_12 : decode cX4_notesOf 12 = .ok (.iload_n 1, 1) := by decide +kernel
theorem dX4_notesOf_13 : decode cX4_notesOf 13 = .ok (.iaload, 1) := by decide +kernel
theorem dX4_notesOf_14 : decode cX4_notesOf 14 = .ok (.goto 4, 3) := by decide +kernel
theorem dX4_notesOf_17 : decode cX4_notesOf 17 = .ok (.iconst 0, 1) := by decide +kernel
theorem dX4_notesOf_18 : decode cX4_notesOf 18 = .ok (.ireturn, 1) := by decide +kernel
theorem dX4_barOf_0 : decode cX4_barOf 0 = .ok (.aload_n 0, 1) := by decide +kernel
theorem dX4_barOf_1 : decode cX4_barOf 1 = .ok (.iload_n 1, 1) := by decide +kernel
theorem dX4_barOf_2 : decode cX4_barOf 2 = .ok (.invokevirtual 53, 3) := by decide +kernel
theorem dX4_barOf_5 : decode cX4_barOf 5 = .ok (.ifCond .eq 12, 3) := by decide +kernel
theorem dX4_barOf_8 : decode cX4_barOf 8 = .ok (.aload_n 0, 1) := by decide +kernel
theorem dX4_barOf_9 : decode cX4_barOf 9 = .ok (.getfield 22, 3) := by decide +kernel
theorem dX4_barOf_12 : decode cX4_barOf 12 = .ok (.iload_n 1, 1) := by decide +kernel
theorem dX4_barOf_13 : decode cX4_barOf 13 = .ok (.iaload, 1) := by decide +kernel
theorem dX4_barOf_14 : decode cX4_barOf 14 = .ok (.goto 4, 3) := by decide +kernel
theorem dX4_barOf_17 : decode cX4_barOf 17 = .ok (.iconst 0, 1) := by decide +kernel
theorem dX4_barOf_18 : decode cX4_barOf 18 = .ok (.ireturn, 1) := by decide +kernel
theorem dX4_isAccented_0 : decode cX4_isAccented 0 = .ok (.aload_n 0, 1) := by decide +kernel
theorem dX4_isAccented_1 : decode cX4_isAccented 1 = .ok (.iload_n 1, 1) := by decide +kernel
theorem dX4_isAccented_2 : decode cX4_isAccented 2 = .ok (.invokevirtual 53, 3) := by decide +kernel
theorem dX4_isAccented_5 : decode cX4_isAccented 5 = .ok (.ifCond .eq 16, 3) := by decide +kernel
theorem dX4_isAccented_8 : decode cX4_isAccented 8 = .ok (.aload_n 0, 1) := by decide +kernel
theorem dX4_isAccented_9 : decode cX4_isAccented 9 = .ok (.getfield 25, 3) := by decide +kernel
theorem dX4_isAccented_12 : decode cX4_isAccented 12 = .ok (.iload_n 1, 1) := by decide +kernel
theorem dX4_isAccented_13 : decode cX4_isAccented 13 = .ok (.baload, 1) := by decide +kernel
theorem dX4_isAccented_14 : decode cX4_isAccented 14 = .ok (.ifCond .eq 7, 3) := by decide +kernel
theorem dX4_isAccented_17 : decode cX4_isAccented 17 = .ok (.iconst 1, 1) := by decide +kernel
theorem dX4_isAccented_18 : decode cX4_isAccented 18 = .ok (.goto 4, 3) := by decide +kernel
theorem dX4_isAccented_21 : decode cX4_isAccented 21 = .ok (.iconst 0, 1) := by decide +kernel
theorem dX4_isAccented_22 : decode cX4_isAccented 22 = .ok (.ireturn, 1) := by decide +kernel
theorem dX4_barLength_0 : decode cX4_barLength 0 = .ok (.aload_n 0, 1) := by decide +kernel
theorem dX4_barLength_1 : decode cX4_barLength 1 = .ok (.iload_n 1, 1) := by decide +kernel
theorem dX4_barLength_2 : decode cX4_barLength 2 = .ok (.invokevirtual 57, 3) := by decide +kernel
theorem dX4_barLength_5 : decode cX4_barLength 5 = .ok (.ifCond .eq 12, 3) := by decide +kernel
theorem dX4_barLength_8 : decode cX4_barLength 8 = .ok (.aload_n 0, 1) := by decide +kernel
theorem dX4_barLength_9 : decode cX4_barLength 9 = .ok (.getfield 29, 3) := by decide +kernel
theorem dX4_barLength_12 : decode cX4_barLength 12 = .ok (.iload_n 1, 1) := by decide +kernel
theorem dX4_barLength_13 : decode cX4_barLength 13 = .ok (.laload, 1) := by decide +kernel
theorem dX4_barLength_14 : decode cX4_barLength 14 = .ok (.goto 4, 3) := by decide +kernel
theorem dX4_barLength_17 : decode cX4_barLength 17 = .ok (.lconst 0, 1) := by decide +kernel
theorem dX4_barLength_18 : decode cX4_barLength 18 = .ok (.lreturn, 1) := by decide +kernel
theorem dX4_build_0 : decode cX4_build 0 = .ok (.aload_n 0, 1) := by decide +kernel
theorem dX4_build_1 : decode cX4_build 1 = .ok (.invokevirtual 39, 3) := by decide +kernel
theorem dX4_build_4 : decode cX4_build 4 = .ok (.iconst 0, 1) := by decide +kernel
theorem dX4_build_5 : decode cX4_build 5 = .ok (.istore_n 2, 1) := by decide +kernel
theorem dX4_build_6 : decode cX4_build 6 = .ok (.iload_n 2, 1) := by decide +kernel
theorem dX4_build_7 : decode cX4_build 7 = .ok (.aload_n 1, 1) := by decide +kernel
theorem dX4_build_8 : decode cX4_build 8 = .ok (.invokevirtual 60, 3) := by decide +kernel
theorem dX4_build_11 : decode cX4_build 11 = .ok (.if_icmp .ge 93, 3) := by decide +kernel
theorem dX4_build_14 : decode cX4_build 14 = .ok (.aload_n 1, 1) := by decide +kernel
theorem dX4_build_15 : decode cX4_build 15 = .ok (.iload_n 2, 1) := by decide +kernel
theorem dX4_build_16 : decode cX4_build 16 = .ok (.invokevirtual 66, 3) := by decide +kernel
theorem dX4_build_19 : decode cX4_build 19 = .ok (.istore_n 3, 1) := by decide +kernel
theorem dX4_build_20 : decode cX4_build 20 = .ok (.iload_n 3, 1) := by decide +kernel
theorem dX4_build_21 : decode cX4_build 21 = .ok (.bipush 124, 2) := by decide +kernel
theorem dX4_build_23 : decode cX4_build 23 = .ok (.if_icmp .ne 10, 3) := by decide +kernel
theorem dX4_build_26 : decode cX4_build 26 = .ok (.aload_n 0, 1) := by decide +kernel
theorem dX4_build_27 : decode cX4_build 27 = .ok (.invokevirtual 70, 3) := by decide +kernel
theorem dX4_build_30 : decode cX4_build 30 = .ok (.goto 68, 3) := by decide +kernel
theorem dX4_build_33 : decode cX4_build 33 = .ok (.iload_n 3, 1) := by decide +kernel
theorem dX4_build_34 : decode cX4_build 34 = .ok (.bipush 123, 2) := by decide +kernel
theorem dX4_build_36 : decode cX4_build 36 = .ok (.if_icmp .ne 33, 3) := by decide +kernel
theorem dX4_build_39 : decode cX4_build 39 = .ok (.aload_n 0, 1) := by decide +kernel
theorem dX4_build_40 : decode cX4_build 40 = .ok (.getfield 35, 3) := by decide +kernel
theorem dX4_build_43 : decode cX4_build 43 = .ok (.aload_n 1, 1) := by decide +kernel
theorem dX4_build_44 : decode cX4_build 44 = .ok (.iload_n 2, 1) := by decide +kernel
theorem dX4_build_45 : decode cX4_build 45 = .ok (.iconst 1, 1) := by decide +kernel
theorem dX4_build_46 : decode cX4_build 46 = .ok (.iadd, 1) := by decide +kernel
theorem dX4_build_47 : decode cX4_build 47 = .ok (.invokevirtual 66, 3) := by decide +kernel
theorem dX4_build_50 : decode cX4_build 50 = .ok (.invokestatic 73, 3) := by decide +kernel
theorem dX4_build_53 : decode cX4_build 53 = .ok (.aload_n 1, 1) := by decide +kernel
theorem dX4_build_54 : decode cX4_build 54 = .ok (.iload_n 2, 1) := by decide +kernel
theorem dX4_build_55 : decode cX4_build 55 = .ok (.iconst 3, 1) := by decide +kernel
theorem dX4_build_56 : decode cX4_build 56 = .ok (.iadd, 1) := by decide +kernel
theorem dX4_build_57 : decode cX4_build 57 = .ok (.invokevirtual 66, 3) := by decide +kernel
theorem dX4_build_60 : decode cX4_build 60 = .ok (.invokestatic 73, 3) := by decide +kernel
theorem dX4_build_63 : decode cX4_build 63 = .ok (.invokevirtual 78, 3) := by decide +kernel
theorem dX4_build_66 : decode cX4_build 66 = .ok (.goto 32, 3) := by decide +kernel
theorem dX4_build_69 : decode cX4_build 69 = .ok (.iload_n 3, 1) := by decide +kernel
theorem dX4_build_70 : decode cX4_build 70 = .ok (.bipush 125, 2) := by decide +kernel
theorem dX4_build_72 : decode cX4_build 72 = .ok (.if_icmp .ne 13, 3) := by decide +kernel
theorem dX4_build_75 : decode cX4_build 75 = .ok (.aload_n 0, 1) := by decide +kernel
theorem dX4_build_76 : decode cX4_build 76 = .ok (.getfield 35, 3) := by decide +kernel
theorem dX4_build_79 : decode cX4_build 79 = .ok (.invokevirtual 82, 3) := by decide +kernel
theorem dX4_build_82 : decode cX4_build 82 = .ok (.goto 16, 3) := by decide +kernel
theorem dX4_build_85 : decode cX4_build 85 = .ok (.iload_n 3, 1) := by decide +kernel
theorem dX4_build_86 : decode cX4_build 86 = .ok (.invokestatic 85, 3) := by decide +kernel
theorem dX4_build_89 : decode cX4_build 89 = .ok (.ifCond .lt 9, 3) := by decide +kernel
theorem dX4_build_92 : decode cX4_build 92 = .ok (.aload_n 0, 1) := by decide +kernel
theorem dX4_build_93 : decode cX4_build 93 = .ok (.aload_n 1, 1) := by decide +kernel
theorem dX4_build_94 : decode cX4_build 94 = .ok (.iload_n 2, 1) := by decide +kernel
theorem dX4_build_95 : decode cX4_build 95 = .ok (.invokevirtual 88, 3) := by decide +kernel
theorem dX4_build_98 : decode cX4_build 98 = .ok (.iinc 2 1, 3) := by decide +kernel
theorem dX4_build_101 : decode cX4_build 101 = .ok (.goto (-95), 3) := by decide +kernel
theorem dX4_build_104 : decode cX4_build 104 = .ok (.return_, 1) := by decide +kernel
theorem dX4_start_0 : decode cX4_start 0 = .ok (.aload_n 0, 1) := by decide +kernel
theorem dX4_start_1 : decode cX4_start 1 = .ok (.iconst 0, 1) := by decide +kernel
theorem dX4_start_2 : decode cX4_start 2 = .ok (.putfield 42, 3) := by decide +kernel
theorem dX4_start_5 : decode cX4_start 5 = .ok (.aload_n 0, 1) := by decide +kernel
theorem dX4_start_6 : decode cX4_start 6 = .ok (.iconst 1, 1) := by decide +kernel
theorem dX4_start_7 : decode cX4_start 7 = .ok (.putfield 46, 3) := by decide +kernel
theorem dX4_start_10 : decode cX4_start 10 = .ok (.aload_n 0, 1) := by decide +kernel
theorem dX4_start_11 : decode cX4_start 11 = .ok (.getfield 29, 3) := by decide +kernel
theorem dX4_start_14 : decode cX4_start 14 = .ok (.iconst 0, 1) := by decide +kernel
theorem dX4_start_15 : decode cX4_start 15 = .ok (.lconst 0, 1) := by decide +kernel
theorem dX4_start_16 : decode cX4_start 16 = .ok (.lastore, 1) := by decide +kernel
theorem dX4_start_17 : decode cX4_start 17 = .ok (.aload_n 0, 1) := by decide +kernel
theorem dX4_start_18 : decode cX4_start 18 = .ok (.lconst 0, 1) := by decide +kernel
theorem dX4_start_19 : decode cX4_start 19 = .ok (.putfield 49, 3) := by decide +kernel
theorem dX4_start_22 : decode cX4_start 22 = .ok (.aload_n 0, 1) := by decide +kernel
theorem dX4_start_23 : decode cX4_start 23 = .ok (.iconst 0, 1) := by decide +kernel
theorem dX4_start_24 : decode cX4_start 24 = .ok (.putfield 92, 3) := by decide +kernel
theorem dX4_start_27 : decode cX4_start 27 = .ok (.aload_n 0, 1) := by decide +kernel
theorem dX4_start_28 : decode cX4_start 28 = .ok (.getfield 35, 3) := by decide +kernel
theorem dX4_start_31 : decode cX4_start 31 = .ok (.invokevirtual 96, 3) := by decide +kernel
theorem dX4_start_34 : decode cX4_start 34 = .ok (.return_, 1) := by decide +kernel
theorem dX4_beginBar_0 : decode cX4_beginBar 0 = .ok (.aload_n 0, 1) := by decide +kernel
theorem dX4_beginBar_1 : decode cX4_beginBar 1 = .ok (.getfield 46, 3) := by decide +kernel
theorem dX4_beginBar_4 : decode cX4_beginBar 4 = .ok (.aload_n 0, 1) := by decide +kernel
theorem dX4_beginBar_5 : decode cX4_beginBar 5 = .ok (.getfield 29, 3) := by decide +kernel
theorem dX4_beginBar_8 : decode cX4_beginBar 8 = .ok (.arraylength, 1) := by decide +kernel
theorem dX4_beginBar_9 : decode cX4_beginBar 9 = .ok (.if_icmp .ge 23, 3) := by decide +kernel
theorem dX4_beginBar_12 : decode cX4_beginBar 12 = .ok (.aload_n 0, 1) := by decide +kernel
theorem dX4_beginBar_13 : decode cX4_beginBar 13 = .ok (.getfield 29, 3) := by decide +kernel
theorem dX4_beginBar_16 : decode cX4_beginBar 16 = .ok (.aload_n 0, 1) := by decide +kernel
theorem dX4_beginBar_17 : decode cX4_beginBar 17 = .ok (.getfield 46, 3) := by decide +kernel
theorem dX4_beginBar_20 : decode cX4_beginBar 20 = .ok (.lconst 0, 1) := by decide +kernel
theorem dX4_beginBar_21 : decode cX4_beginBar 21 = .ok (.lastore, 1) := by decide +kernel
theorem dX4_beginBar_22 : decode cX4_beginBar 22 = .ok (.aload_n 0, 1) := by decide +kernel
theorem dX4_beginBar_23 : decode cX4_beginBar 23 = .ok (.dup, 1) := by decide +kernel
theorem dX4_beginBar_24 : decode cX4_beginBar 24 = .ok (.getfield 46, 3) := by decide +kernel
theorem dX4_beginBar_27 : decode cX4_beginBar 27 = .ok (.iconst 1, 1) := by decide +kernel
theorem dX4_beginBar_28 : decode cX4_beginBar 28 = .ok (.iadd, 1) := by decide +kernel
theorem dX4_beginBar_29 : decode cX4_beginBar 29 = .ok (.putfield 46, 3) := by decide +kernel
theorem dX4_beginBar_32 : decode cX4_beginBar 32 = .ok (.return_, 1) := by decide +kernel
theorem dX4_addSound_0 : decode cX4_addSound 0 = .ok (.iconst 0, 1) := by decide +kernel
theorem dX4_addSound_1 : decode cX4_addSound 1 = .ok (.istore_n 3, 1) := by decide +kernel
theorem dX4_addSound_2 : decode cX4_addSound 2 = .ok (.iload_n 3, 1) := by decide +kernel
theorem dX4_addSound_3 : decode cX4_addSound 3 = .ok (.iconst 2, 1) := by decide +kernel
theorem dX4_addSound_4 : decode cX4_addSound 4 = .ok (.if_icmp .ge 23, 3) := by decide +kernel
theorem dX4_addSound_7 : decode cX4_addSound 7 = .ok (.aload_n 1, 1) := by decide +kernel
theorem dX4_addSound_8 : decode cX4_addSound 8 = .ok (.iload_n 2, 1) := by decide +kernel
theorem dX4_addSound_9 : decode cX4_addSound 9 = .ok (.iconst 1, 1) := by decide +kernel
theorem dX4_addSound_10 : decode cX4_addSound 10 = .ok (.iadd, 1) := by decide +kernel
theorem dX4_addSound_11 : decode cX4_addSound 11 = .ok (.iload_n 3, 1) := by decide +kernel
theorem dX4_addSound_12 : decode cX4_addSound 12 = .ok (.iadd, 1) := by decide +kernel
theorem dX4_addSound_13 : decode cX4_addSound 13 = .ok (.invokevirtual 66, 3) := by decide +kernel
theorem dX4_addSound_16 : decode cX4_addSound 16 = .ok (.bipush 46, 2) := by decide +kernel
theorem dX4_addSound_18 : decode cX4_addSound 18 = .ok (.if_icmp .ne 9, 3) := by decide +kernel
theorem dX4_addSound_21 : decode cX4_addSound 21 = .ok (.iinc 3 1, 3) := by decide +kernel
theorem dX4_addSound_24 : decode cX4_addSound 24 = .ok (.goto (-22), 3) := by decide +kernel
theorem dX4_addSound_27 : decode cX4_addSound 27 = .ok (.aload_n 0, 1) := by decide +kernel
theorem dX4_addSound_28 : decode cX4_addSound 28 = .ok (.getfield 35, 3) := by decide +kernel
theorem dX4_addSound_31 : decode cX4_addSound 31 = .ok (.ldc2_w 97, 3) := by decide +kernel
theorem dX4_addSound_34 : decode cX4_addSound 34 = .ok (.getstatic 99, 3) := by decide +kernel
theorem dX4_addSound_37 : decode cX4_addSound 37 = .ok (.iload_n 3, 1) := by decide +kernel
theorem dX4_addSound_38 : decode cX4_addSound 38 = .ok (.iaload, 1) := by decide +kernel
theorem dX4_addSound_39 : decode cX4_addSound 39 = .ok (.i2l, 1) := by decide +kernel
theorem dX4_addSound_40 : decode cX4_addSound 40 = .ok (.lmul, 1) := by decide +kernel
theorem dX4_addSound_41 : decode cX4_addSound 41 = .ok (.ldc2_w 102, 3) := by decide +kernel
theorem dX4_addSound_44 : decode cX4_addSound 44 = .ok (.aload_n 1, 1) := by decide +kernel
theorem dX4_addSound_45 : decode cX4_addSound 45 = .ok (.iload_n 2, 1) := by decide +kernel
theorem dX4_addSound_46 : decode cX4_addSound 46 = .ok (.invokevirtual 66, 3) := by decide +kernel
theorem dX4_addSound_49 : decode cX4_addSound 49 = .ok (.invokestatic 85, 3) := by decide +kernel
theorem dX4_addSound_52 : decode cX4_addSound 52 = .ok (.lshl, 1) := by decide +kernel
theorem dX4_addSound_53 : decode cX4_addSound 53 = .ok (.invokevirtual 104, 3) := by decide +kernel
theorem dX4_addSound_56 : decode cX4_addSound 56 = .ok (.lstore 4, 2) := by decide +kernel
theorem dX4_addSound_58 : decode cX4_addSound 58 = .ok (.aload_n 1, 1) := by decide +kernel
theorem dX4_addSound_59 : decode cX4_addSound 59 = .ok (.iload_n 2, 1) := by decide +kernel
theorem dX4_addSound_60 : decode cX4_addSound 60 = .ok (.iconst 1, 1) := by decide +kernel
theorem dX4_addSound_61 : decode cX4_addSound 61 = .ok (.isub, 1) := by decide +kernel
theorem dX4_addSound_62 : decode cX4_addSound 62 = .ok (.invokevirtual 66, 3) := by decide +kernel
theorem dX4_addSound_65 : decode cX4_addSound 65 = .ok (.bipush 114, 2) := by decide +kernel
theorem dX4_addSound_67 : decode cX4_addSound 67 = .ok (.if_icmp .ne 11, 3) := by decide +kernel
theorem dX4_addSound_70 : decode cX4_addSound 70 = .ok (.aload_n 0, 1) := by decide +kernel
theorem dX4_addSound_71 : decode cX4_addSound 71 = .ok (.iconst 0, 1) := by decide +kernel
theorem dX4_addSound_72 : decode cX4_addSound 72 = .ok (.putfield 92, 3) := by decide +kernel
theorem dX4_addSound_75 : decode cX4_addSound 75 = .ok (.goto 49, 3) := by decide +kernel
theorem dX4_addSound_78 : decode cX4_addSound 78 = .ok (.aload_n 0, 1) := by decide +kernel
theorem dX4_addSound_79 : decode cX4_addSound 79 = .ok (.lload 4, 2) := by decide +kernel
theorem dX4_addSound_81 : decode cX4_addSound 81 = .ok (.aload_n 1, 1) := by decide +kernel
theorem dX4_addSound_82 : decode cX4_addSound 82 = .ok (.iload_n 2, 1) := by decide +kernel
theorem dX4_addSound_83 : decode cX4_addSound 83 = .ok (.iconst 1, 1) := by decide +kernel
theorem dX4_addSound_84 : decode cX4_addSound 84 = .ok (.isub, 1) := by decide +kernel
theorem dX4_addSound_85 : decode cX4_addSound 85 = .ok (.invokevirtual 66, 3) := by decide +kernel
theorem dX4_addSound_88 : decode cX4_addSound 88 = .ok (.bipush 94, 2) := by decide +kernel
theorem dX4_addSound_90 : decode cX4_addSound 90 = .ok (.if_icmp .ne 7, 3) := by decide +kernel
theorem dX4_addSound_93 : decode cX4_addSound 93 = .ok (.iconst 1, 1) := by decide +kernel
theorem dX4_addSound_94 : decode cX4_addSound 94 = .ok (.goto 4, 3) := by decide +kernel
theorem dX4_addSound_97 : decode cX4_addSound 97 = .ok (.iconst 0, 1) := by decide +kernel
theorem dX4_addSound_98 : decode cX4_addSound 98 = .ok (.invokevirtual 108, 3) := by decide +kernel
theorem dX4_addSound_101 : decode cX4_addSound 101 = .ok (.aload_n 0, 1) := by decide +kernel
theorem dX4_addSound_102 : decode cX4_addSound 102 = .ok (.aload_n 1, 1) := by decide +kernel
theorem dX4_addSound_103 : decode cX4_addSound 103 = .ok (.iload_n 2, 1) := by decide +kernel
theorem dX4_addSound_104 : decode cX4_addSound 104 = .ok (.iconst 1, 1) := by decide +kernel
theorem dX4_addSound_105 : decode cX4_addSound 105 = .ok (.iadd, 1) := by decide +kernel
theorem dX4_addSound_106 : decode cX4_addSound 106 = .ok (.iload_n 3, 1) := by decide +kernel
theorem dX4_addSound_107 : decode cX4_addSound 107 = .ok (.iadd, 1) := by decide +kernel
theorem dX4_addSound_108 : decode cX4_addSound 108 = .ok (.invokevirtual 66, 3) := by decide +kernel
theorem dX4_addSound_111 : decode cX4_addSound 111 = .ok (.bipush 126, 2) := by decide +kernel
theorem dX4_addSound_113 : decode cX4_addSound 113 = .ok (.if_icmp .ne 7, 3) := by decide +kernel
theorem dX4_addSound_116 : decode cX4_addSound 116 = .ok (.iconst 1, 1) := by decide +kernel
theorem dX4_addSound_117 : decode cX4_addSound 117 = .ok (.goto 4, 3) := by decide +kernel
theorem dX4_addSound_120 : decode cX4_addSound 120 = .ok (.iconst 0, 1) := by decide +kernel
theorem dX4_addSound_121 : decode cX4_addSound 121 = .ok (.putfield 92, 3) := by decide +kernel
theorem dX4_addSound_124 : decode cX4_addSound 124 = .ok (.aload_n 0, 1) := by decide +kernel
theorem dX4_addSound_125 : decode cX4_addSound 125 = .ok (.dup, 1) := by decide +kernel
theorem dX4_addSound_126 : decode cX4_addSound 126 = .ok (.getfield 49, 3) := by decide +kernel
theorem dX4_addSound_129 : decode cX4_addSound 129 = .ok (.lload 4, 2) := by decide +kernel
theorem dX4_addSound_131 : decode cX4_addSound 131 = .ok (.ladd, 1) := by decide +kernel
theorem dX4_addSound_132 : decode cX4_addSound 132 = .ok (.putfield 49, 3) := by decide +kernel
theorem dX4_addSound_135 : decode cX4_addSound 135 = .ok (.aload_n 0, 1) := by decide +kernel
theorem dX4_addSound_136 : decode cX4_addSound 136 = .ok (.aload_n 0, 1) := by decide +kernel
theorem dX4_addSound_137 : decode cX4_addSound 137 = .ok (.getfield 46, 3) := by decide +kernel
theorem dX4_addSound_140 : decode cX4_addSound 140 = .ok (.iconst 1, 1) := by decide +kernel
theorem dX4_addSound_141 : decode cX4_addSound 141 = .ok (.isub, 1) := by decide +kernel
theorem dX4_addSound_142 : decode cX4_addSound 142 = .ok (.invokevirtual 57, 3) := by decide +kernel
theorem dX4_addSound_145 : decode cX4_addSound 145 = .ok (.ifCond .eq 19, 3) := by decide +kernel
theorem dX4_addSound_148 : decode cX4_addSound 148 = .ok (.aload_n 0, 1) := by decide +kernel
theorem dX4_addSound_149 : decode cX4_addSound 149 = .ok (.getfield 29, 3) := by decide +kernel
theorem dX4_addSound_152 : decode cX4_addSound 152 = .ok (.aload_n 0, 1) := by decide +kernel
theorem dX4_addSound_153 : decode cX4_addSound 153 = .ok (.getfield 46, 3) := by decide +kernel
theorem dX4_addSound_156 : decode cX4_addSound 156 = .ok (.iconst 1, 1) := by decide +kernel
theorem dX4_addSound_157 : decode cX4_addSound 157 = .ok (.isub, 1) := by decide +kernel
theorem dX4_addSound_158 : decode cX4_addSound 158 = .ok (.dup2, 1) := by decide +kernel
theorem dX4_addSound_159 : decode cX4_addSound 159 = .ok (.laload, 1) := by decide +kernel
theorem dX4_addSound_160 : decode cX4_addSound 160 = .ok (.lload 4, 2) := by decide +kernel
theorem dX4_addSound_162 : decode cX4_addSound 162 = .ok (.ladd, 1) := by decide +kernel
theorem dX4_addSound_163 : decode cX4_addSound 163 = .ok (.lastore, 1) := by decide +kernel
theorem dX4_addSound_164 : decode cX4_addSound 164 = .ok (.return_, 1) := by decide +kernel
theorem dX4_addNote_0 : decode cX4_addNote 0 = .ok (.aload_n 0, 1) := by decide +kernel
theorem dX4_addNote_1 : decode cX4_addNote 1 = .ok (.getfield 92, 3) := by decide +kernel
theorem dX4_addNote_4 : decode cX4_addNote 4 = .ok (.ifCond .eq 49, 3) := by decide +kernel
theorem dX4_addNote_7 : decode cX4_addNote 7 = .ok (.aload_n 0, 1) := by decide +kernel
theorem dX4_addNote_8 : decode cX4_addNote 8 = .ok (.aload_n 0, 1) := by decide +kernel
theorem dX4_addNote_9 : decode cX4_addNote 9 = .ok (.getfield 42, 3) := by decide +kernel
theorem dX4_addNote_12 : decode cX4_addNote 12 = .ok (.iconst 1, 1) := by decide +kernel
theorem dX4_addNote_13 : decode cX4_addNote 13 = .ok (.isub, 1) := by decide +kernel
theorem dX4_addNote_14 : decode cX4_addNote 14 = .ok (.invokevirtual 53, 3) := by decide +kernel
theorem dX4_addNote_17 : decode cX4_addNote 17 = .ok (.ifCond .eq 36, 3) := by decide +kernel
theorem dX4_addNote_20 : decode cX4_addNote 20 = .ok (.aload_n 0, 1) := by decide +kernel
theorem dX4_addNote_21 : decode cX4_addNote 21 = .ok (.getfield 15, 3) := by decide +kernel
theorem dX4_addNote_24 : decode cX4_addNote 24 = .ok (.aload_n 0, 1) := by decide +kernel
theorem dX4_addNote_25 : decode cX4_addNote 25 = .ok (.getfield 42, 3) := by decide +kernel
theorem dX4_addNote_28 : decode cX4_addNote 28 = .ok (.iconst 1, 1) := by decide +kernel
theorem dX4_addNote_29 : decode cX4_addNote 29 = .ok (.isub, 1) := by decide +kernel
theorem dX4_addNote_30 : decode cX4_addNote 30 = .ok (.dup2, 1) := by decide +kernel
theorem dX4_addNote_31 : decode cX4_addNote 31 = .ok (.laload, 1) := by decide +kernel
theorem dX4_addNote_32 : decode cX4_addNote 32 = .ok (.lload_n 1, 1) := by decide +kernel
theorem dX4_addNote_33 : decode cX4_addNote 33 = .ok (.ladd, 1) := by decide +kernel
theorem dX4_addNote_34 : decode cX4_addNote 34 = .ok (.lastore, 1) := by decide +kernel
theorem dX4_addNote_35 : decode cX4_addNote 35 = .ok (.aload_n 0, 1) := by decide +kernel
theorem dX4_addNote_36 : decode cX4_addNote 36 = .ok (.getfield 18, 3) := by decide +kernel
theorem dX4_addNote_39 : decode cX4_addNote 39 = .ok (.aload_n 0, 1) := by decide +kernel
theorem dX4_addNote_40 : decode cX4_addNote 40 = .ok (.getfield 42, 3) := by decide +kernel
theorem dX4_addNote_43 : decode cX4_addNote 43 = .ok (.iconst 1, 1) := by decide +kernel
theorem dX4_addNote_44 : decode cX4_addNote 44 = .ok (.isub, 1) := by decide +kernel
theorem dX4_addNote_45 : decode cX4_addNote 45 = .ok (.dup2, 1) := by decide +kernel
theorem dX4_addNote_46 : decode cX4_addNote 46 = .ok (.iaload, 1) := by decide +kernel
theorem dX4_addNote_47 : decode cX4_addNote 47 = .ok (.iconst 1, 1) := by decide +kernel
theorem dX4_addNote_48 : decode cX4_addNote 48 = .ok (.iadd, 1) := by decide +kernel
theorem dX4_addNote_49 : decode cX4_addNote 49 = .ok (.iastore, 1) := by decide +kernel
theorem dX4_addNote_50 : decode cX4_addNote 50 = .ok (.goto 86, 3) := by decide +kernel
theorem dX4_addNote_53 : decode cX4_addNote 53 = .ok (.aload_n 0, 1) := by decide +kernel
theorem dX4_addNote_54 : decode cX4_addNote 54 = .ok (.getfield 42, 3) := by decide +kernel
theorem dX4_addNote_57 : decode cX4_addNote 57 = .ok (.sipush 300, 3) := by decide +kernel
theorem dX4_addNote_60 : decode cX4_addNote 60 = .ok (.if_icmp .ge 76, 3) := by decide +kernel
theorem dX4_addNote_63 : decode cX4_addNote 63 = .ok (.aload_n 0, 1) := by decide +kernel
theorem dX4_addNote_64 : decode cX4_addNote 64 = .ok (.getfield 9, 3) := by decide +kernel
theorem dX4_addNote_67 : decode cX4_addNote 67 = .ok (.aload_n 0, 1) := by decide +kernel
theorem dX4_addNote_68 : decode cX4_addNote 68 = .ok (.getfield 42, 3) := by decide +kernel
theorem dX4_addNote_71 : decode cX4_addNote 71 = .ok (.aload_n 0, 1) := by decide +kernel
theorem dX4_addNote_72 : decode cX4_addNote 72 = .ok (.getfield 49, 3) := by decide +kernel
theorem dX4_addNote_75 : decode cX4_addNote 75 = .ok (.lastore, 1) := by decide +kernel
theorem dX4_addNote_76 : decode cX4_addNote 76 = .ok (.aload_n 0, 1) := by decide +kernel
theorem dX4_addNote_77 : decode cX4_addNote 77 = .ok (.getfield 15, 3) := by decide +kernel
theorem dX4_addNote_80 : decode cX4_addNote 80 = .ok (.aload_n 0, 1) := by decide +kernel
theorem dX4_addNote_81 : decode cX4_addNote 81 = .ok (.getfield 42, 3) := by decide +kernel
theorem dX4_addNote_84 : decode cX4_addNote 84 = .ok (.aload_n 0, 1) := by decide +kernel
theorem dX4_addNote_85 : decode cX4_addNote 85 = .ok (.getfield 49, 3) := by decide +kernel
theorem dX4_addNote_88 : decode cX4_addNote 88 = .ok (.lload_n 1, 1) := by decide +kernel
theorem dX4_addNote_89 : decode cX4_addNote 89 = .ok (.ladd, 1) := by decide +kernel
theorem dX4_addNote_90 : decode cX4_addNote 90 = .ok (.lastore, 1) := by decide +kernel
theorem dX4_addNote_91 : decode cX4_addNote 91 = .ok (.aload_n 0, 1) := by decide +kernel
theorem dX4_addNote_92 : decode cX4_addNote 92 = .ok (.getfield 18, 3) := by decide +kernel
theorem dX4_addNote_95 : decode cX4_addNote 95 = .ok (.aload_n 0, 1) := by decide +kernel
theorem dX4_addNote_96 : decode cX4_addNote 96 = .ok (.getfield 42, 3) := by decide +kernel
theorem dX4_addNote_99 : decode cX4_addNote 99 = .ok (.iconst 1, 1) := by decide +kernel
theorem dX4_addNote_100 : decode cX4_addNote 100 = .ok (.iastore, 1) := by decide +kernel
theorem dX4_addNote_101 : decode cX4_addNote 101 = .ok (.aload_n 0, 1) := by decide +kernel
theorem dX4_addNote_102 : decode cX4_addNote 102 = .ok (.getfield 22, 3) := by decide +kernel
theorem dX4_addNote_105 : decode cX4_addNote 105 = .ok (.aload_n 0, 1) := by decide +kernel
theorem dX4_addNote_106 : decode cX4_addNote 106 = .ok (.getfield 42, 3) := by decide +kernel
theorem dX4_addNote_109 : decode cX4_addNote 109 = .ok (.aload_n 0, 1) := by decide +kernel
theorem dX4_addNote_110 : decode cX4_addNote 110 = .ok (.getfield 46, 3) := by decide +kernel
theorem dX4_addNote_113 : decode cX4_addNote 113 = .ok (.iconst 1, 1) := by decide +kernel
theorem dX4_addNote_114 : decode cX4_addNote 114 = .ok (.isub, 1) := by decide +kernel
theorem dX4_addNote_115 : decode cX4_addNote 115 = .ok (.iastore, 1) := by decide +kernel
theorem dX4_addNote_116 : decode cX4_addNote 116 = .ok (.aload_n 0, 1) := by decide +kernel
theorem dX4_addNote_117 : decode cX4_addNote 117 = .ok (.getfield 25, 3) := by decide +kernel
theorem dX4_addNote_120 : decode cX4_addNote 120 = .ok (.aload_n 0, 1) := by decide +kernel
theorem dX4_addNote_121 : decode cX4_addNote 121 = .ok (.getfield 42, 3) := by decide +kernel
theorem dX4_addNote_124 : decode cX4_addNote 124 = .ok (.iload_n 3, 1) := by decide +kernel
theorem dX4_addNote_125 : decode cX4_addNote 125 = .ok (.bastore, 1) := by decide +kernel
theorem dX4_addNote_126 : decode cX4_addNote 126 = .ok (.aload_n 0, 1) := by decide +kernel
theorem dX4_addNote_127 : decode cX4_addNote 127 = .ok (.dup, 1) := by decide +kernel
theorem dX4_addNote_128 : decode cX4_addNote 128 = .ok (.getfield 42, 3) := by decide +kernel
theorem dX4_addNote_131 : decode cX4_addNote 131 = .ok (.iconst 1, 1) := by decide +kernel
theorem dX4_addNote_132 : decode cX4_addNote 132 = .ok (.iadd, 1) := by decide +kernel
theorem dX4_addNote_133 : decode cX4_addNote 133 = .ok (.putfield 42, 3) := by decide +kernel
theorem dX4_addNote_136 : decode cX4_addNote 136 = .ok (.return_, 1) := by decide +kernel
theorem dX5_init_0 : decode cX5_init 0 = .ok (.aload_n 0, 1) := by decide +kernel
theorem dX5_init_1 : decode cX5_init 1 = .ok (.invokespecial 3, 3) := by decide +kernel
theorem dX5_init_4 : decode cX5_init 4 = .ok (.aload_n 0, 1) := by decide +kernel
theorem dX5_init_5 : decode cX5_init 5 = .ok (.iconst 4, 1) := by decide +kernel
theorem dX5_init_6 : decode cX5_init 6 = .ok (.anewarray 9, 3) := by decide +kernel
theorem dX5_init_9 : decode cX5_init 9 = .ok (.putfield 11, 3) := by decide +kernel
theorem dX5_init_12 : decode cX5_init 12 = .ok (.iconst 0, 1) := by decide +kernel
theorem dX5_init_13 : decode cX5_init 13 = .ok (.istore_n 1, 1) := by decide +kernel
theorem dX5_init_14 : decode cX5_init 14 = .ok (.iload_n 1, 1) := by decide +kernel
theorem dX5_init_15 : decode cX5_init 15 = .ok (.iconst 4, 1) := by decide +kernel
theorem dX5_init_16 : decode cX5_init 16 = .ok (.if_icmp .ge 24, 3) := by decide +kernel
theorem dX5_init_19 : decode cX5_init 19 = .ok (.aload_n 0, 1) := by decide +kernel
theorem dX5_init_20 : decode cX5_init 20 = .ok (.getfield 11, 3) := by decide +kernel
theorem dX5_init_23 : decode cX5_init 23 = .ok (.iload_n 1, 1) := by decide +kernel
theorem dX5_init_24 : decode cX5_init 24 = .ok (.new 9, 3) := by decide +kernel
theorem dX5_init_27 : decode cX5_init 27 = .ok (.dup, 1) := by decide +kernel
theorem dX5_init_28 : decode cX5_init 28 = .ok (.bipush 100, 2) := by decide +kernel
theorem dX5_init_30 : decode cX5_init 30 = .ok (.invokespecial 17, 3) := by decide +kernel
theorem dX5_init_33 : decode cX5_init 33 = .ok (.aastore, 1) := by decide +kernel
theorem dX5_init_34 : decode cX5_init 34 = .ok (.iinc 1 1, 3) := by decide +kernel
theorem dX5_init_37 : decode cX5_init 37 = .ok (.goto (-23), 3) := by decide +kernel
theorem dX5_init_40 : decode cX5_init 40 = .ok (.return_, 1) := by decide +kernel
theorem dX6_init_0 : decode cX6_init 0 = .ok (.aload_n 0, 1) := by decide +kernel
theorem dX6_init_1 : decode cX6_init 1 = .ok (.invokespecial 3, 3) := by decide +kernel
theorem dX6_init_4 : decode cX6_init 4 = .ok (.aload_n 0, 1) := by decide +kernel
theorem dX6_init_5 : decode cX6_init 5 = .ok (.iload_n 1, 1) := by decide +kernel
theorem dX6_init_6 : decode cX6_init 6 = .ok (.iconst 0, 1) := by decide +kernel
theorem dX6_init_7 : decode cX6_init 7 = .ok (.invokestatic 9, 3) := by decide +kernel
theorem dX6_init_10 : decode cX6_init 10 = .ok (.newarray .char, 2) := by decide +kernel
theorem dX6_init_12 : decode cX6_init 12 = .ok (.putfield 15, 3) := by decide +kernel
theorem dX6_init_15 : decode cX6_init 15 = .ok (.return_, 1) := by decide +kernel
theorem dX6_size_0 : decode cX6_size 0 = .ok (.aload_n 0, 1) := by decide +kernel
theorem dX6_size_1 : decode cX6_size 1 = .ok (.getfield 21, 3) := by decide +kernel
theorem dX6_size_4 : decode cX6_size 4 = .ok (.ireturn, 1) := by decide +kernel
theorem dX6_isFull_0 : decode cX6_isFull 0 = .ok (.aload_n 0, 1) := by decide +kernel
theorem dX6_isFull_1 : decode cX6_isFull 1 = .ok (.getfield 21, 3) := by decide +kernel
theorem dX6_isFull_4 : decode cX6_isFull 4 = .ok (.aload_n 0, 1) := by decide +kernel
theorem dX6_isFull_5 : decode cX6_isFull 5 = .ok (.getfield 15, 3) := by decide +kernel
theorem dX6_isFull_8 : decode cX6_isFull 8 = .ok (.arraylength, 1) := by decide +kernel
theorem dX6_isFull_9 : decode cX6_isFull 9 = .ok (.if_icmp .lt 7, 3) := by decide +kernel
theorem dX6_isFull_12 : decode cX6_isFull 12 = .ok (.iconst 1, 1) := by decide +kernel
theorem dX6_isFull_13 : decode cX6_isFull 13 = .ok (.goto 4, 3) := by decide +kernel
theorem dX6_isFull_16 : decode cX6_isFull 16 = .ok (.iconst 0, 1) := by decide +kernel
theorem dX6_isFull_17 : decode cX6_isFull 17 = .ok (.ireturn, 1) := by decide +kernel
theorem dX6_at_0 : decode cX6_at 0 = .ok (.iload_n 1, 1) := by decide +kernel
theorem dX6_at_1 : decode cX6_at 1 = .ok (.ifCond .lt 20, 3) := by decide +kernel
theorem dX6_at_4 : decode cX6_at 4 = .ok (.iload_n 1, 1) := by decide +kernel
theorem dX6_at_5 : decode cX6_at 5 = .ok (.aload_n 0, 1) := by decide +kernel
theorem dX6_at_6 : decode cX6_at 6 = .ok (.getfield 21, 3) := by decide +kernel
theorem dX6_at_9 : decode cX6_at 9 = .ok (.if_icmp .ge 12, 3) := by decide +kernel
theorem dX6_at_12 : decode cX6_at 12 = .ok (.aload_n 0, 1) := by decide +kernel
theorem dX6_at_13 : decode cX6_at 13 = .ok (.getfield 15, 3) := by decide +kernel
theorem dX6_at_16 : decode cX6_at 16 = .ok (.iload_n 1, 1) := by decide +kernel
theorem dX6_at_17 : decode cX6_at 17 = .ok (.caload, 1) := by decide +kernel
theorem dX6_at_18 : decode cX6_at 18 = .ok (.goto 5, 3) := by decide +kernel
theorem dX6_at_21 : decode cX6_at 21 = .ok (.bipush (-9), 2) := by decide +kernel
theorem dX6_at_23 : decode cX6_at 23 = .ok (.ireturn, 1) := by decide +kernel
theorem dX6_makeEmpty_0 : decode cX6_makeEmpty 0 = .ok (.aload_n 0, 1) := by decide +kernel
theorem dX6_makeEmpty_1 : decode cX6_makeEmpty 1 = .ok (.iconst 0, 1) := by decide +kernel
theorem dX6_makeEmpty_2 : decode cX6_makeEmpty 2 = .ok (.putfield 21, 3) := by decide +kernel
theorem dX6_makeEmpty_5 : decode cX6_makeEmpty 5 = .ok (.return_, 1) := by decide +kernel
theorem dX6_append_0 : decode cX6_append 0 = .ok (.aload_n 0, 1) := by decide +kernel
theorem dX6_append_1 : decode cX6_append 1 = .ok (.getfield 21, 3) := by decide +kernel
theorem dX6_append_4 : decode cX6_append 4 = .ok (.aload_n 0, 1) := by decide +kernel
theorem dX6_append_5 : decode cX6_append 5 = .ok (.getfield 15, 3) := by decide +kernel
theorem dX6_append_8 : decode cX6_append 8 = .ok (.arraylength, 1) := by decide +kernel
theorem dX6_append_9 : decode cX6_append 9 = .ok (.if_icmp .ge 24, 3) := by decide +kernel
theorem dX6_append_12 : decode cX6_append 12 = .ok (.aload_n 0, 1) := by decide +kernel
theorem dX6_append_13 : decode cX6_append 13 = .ok (.getfield 15, 3) := by decide +kernel
theorem dX6_append_16 : decode cX6_append 16 = .ok (.aload_n 0, 1) := by decide +kernel
theorem dX6_append_17 : decode cX6_append 17 = .ok (.getfield 21, 3) := by decide +kernel
theorem dX6_append_20 : decode cX6_append 20 = .ok (.iload_n 1, 1) := by decide +kernel
theorem dX6_append_21 : decode cX6_append 21 = .ok (.i2c, 1) := by decide +kernel
theorem dX6_append_22 : decode cX6_append 22 = .ok (.castore, 1) := by decide +kernel
theorem dX6_append_23 : decode cX6_append 23 = .ok (.aload_n 0, 1) := by decide +kernel
theorem dX6_append_24 : decode cX6_append 24 = .ok (.dup, 1) := by decide +kernel
theorem dX6_append_25 : decode cX6_append 25 = .ok (.getfield 21, 3) := by decide +kernel
theorem dX6_append_28 : decode cX6_append 28 = .ok (.iconst 1, 1) := by decide +kernel
theorem dX6_append_29 : decode cX6_append 29 = .ok (.iadd, 1) := by decide +kernel
theorem dX6_append_30 : decode cX6_append 30 = .ok (.putfield 21, 3) := by decide +kernel
theorem dX6_append_33 : decode cX6_append 33 = .ok (.return_, 1) := by decide +kernel
theorem dX6_appendPiece_0 : decode cX6_appendPiece 0 = .ok (.iload_n 3, 1) := by decide +kernel
theorem dX6_appendPiece_1 : decode cX6_appendPiece 1 = .ok (.aload_n 1, 1) := by decide +kernel
theorem dX6_appendPiece_2 : decode cX6_appendPiece 2 = .ok (.getfield 21, 3) := by decide +kernel
theorem dX6_appendPiece_5 : decode cX6_appendPiece 5 = .ok (.invokestatic 25, 3) := by decide +kernel
theorem dX6_appendPiece_8 : decode cX6_appendPiece 8 = .ok (.istore 4, 2) := by decide +kernel
theorem dX6_appendPiece_10 : decode cX6_appendPiece 10 = .ok (.iload_n 2, 1) := by decide +kernel
theorem dX6_appendPiece_11 : decode cX6_appendPiece 11 = .ok (.iconst 0, 1) := by decide +kernel
theorem dX6_appendPiece_12 : decode cX6_appendPiece 12 = .ok (.invokestatic 9, 3) := by decide +kernel
theorem dX6_appendPiece_15 : decode cX6_appendPiece 15 = .ok (.istore 5, 2) := by decide +kernel
theorem dX6_appendPiece_17 : decode cX6_appendPiece 17 = .ok (.iload 5, 2) := by decide +kernel
theorem dX6_appendPiece_19 : decode cX6_appendPiece 19 = .ok (.iload 4, 2) := by decide +kernel
theorem dX6_appendPiece_21 : decode cX6_appendPiece 21 = .ok (.if_icmp .ge 20, 3) := by decide +kernel
theorem dX6_appendPiece_24 : decode cX6_appendPiece 24 = .ok (.aload_n 0, 1) := by decide +kernel
theorem dX6_appendPiece_25 : decode cX6_appendPiece 25 = .ok (.aload_n 1, 1) := by decide +kernel
theorem dX6_appendPiece_26 : decode cX6_appendPiece 26 = .ok (.getfield 15, 3) := by decide +kernel
theorem dX6_appendPiece_29 : decode cX6_appendPiece 29 = .ok (.iload 5, 2) := by decide +kernel
theorem dX6_appendPiece_31 : decode cX6_appendPiece 31 = .ok (.caload, 1) := by decide +kernel
theorem dX6_appendPiece_32 : decode cX6_appendPiece 32 = .ok (.invokevirtual 28, 3) := by decide +kernel
theorem dX6_appendPiece_35 : decode cX6_appendPiece 35 = .ok (.iinc 5 1, 3) := by decide +kernel
theorem dX6_appendPiece_38 : decode cX6_appendPiece 38 = .ok (.goto (-21), 3) := by decide +kernel
theorem dX6_appendPiece_41 : decode cX6_appendPiece 41 = .ok (.return_, 1) := by decide +kernel
theorem dX6_become_0 : decode cX6_become 0 = .ok (.aload_n 1, 1) := by decide +kernel
theorem dX6_become_1 : decode cX6_become 1 = .ok (.getfield 21, 3) := by decide +kernel
theorem dX6_become_4 : decode cX6_become 4 = .ok (.aload_n 0, 1) := by decide +kernel
theorem dX6_become_5 : decode cX6_become 5 = .ok (.getfield 15, 3) := by decide +kernel
theorem dX6_become_8 : decode cX6_become 8 = .ok (.arraylength, 1) := by decide +kernel
theorem dX6_become_9 : decode cX6_become 9 = .ok (.invokestatic 25, 3) := by decide +kernel
theorem dX6_become_12 : decode cX6_become 12 = .ok (.istore_n 2, 1) := by decide +kernel
theorem dX6_become_13 : decode cX6_become 13 = .ok (.iconst 0, 1) := by decide +kernel
theorem dX6_become_14 : decode cX6_become 14 = .ok (.istore_n 3, 1) := by decide +kernel
theorem dX6_become_15 : decode cX6_become 15 = .ok (.iload_n 3, 1) := by decide +kernel
theorem dX6_become_16 : decode cX6_become 16 = .ok (.iload_n 2, 1) := by decide +kernel
theorem dX6_become_17 : decode cX6_become 17 = .ok (.if_icmp .ge 21, 3) := by decide +kernel
theorem dX6_become_20 : decode cX6_become 20 = .ok (.aload_n 0, 1) := by decide +kernel
theorem dX6_become_21 : decode cX6_become 21 = .ok (.getfield 15, 3) := by decide +kernel
theorem dX6_become_24 : decode cX6_become 24 = .ok (.iload_n 3, 1) := by decide +kernel
theorem dX6_become_25 : decode cX6_become 25 = .ok (.aload_n 1, 1) := by decide +kernel
theorem dX6_become_26 : decode cX6_become 26 = .ok (.getfield 15, 3) := by decide +kernel
theorem dX6_become_29 : decode cX6_become 29 = .ok (.iload_n 3, 1) := by decide +kernel
theorem dX6_become_30 : decode cX6_become 30 = .ok (.caload, 1) := by decide +kernel
theorem dX6_become_31 : decode cX6_become 31 = .ok (.castore, 1) := by decide +kernel
theorem dX6_become_32 : decode cX6_become 32 = .ok (.iinc 3 1, 3) := by decide +kernel
theorem dX6_become_35 : decode cX6_become 35 = .ok (.goto (-20), 3) := by decide +kernel
theorem dX6_become_38 : decode cX6_become 38 = .ok (.aload_n 0, 1) := by decide +kernel
theorem dX6_become_39 : decode cX6_become 39 = .ok (.iload_n 2, 1) := by decide +kernel
theorem dX6_become_40 : decode cX6_become 40 = .ok (.putfield 21, 3) := by decide +kernel
theorem dX6_become_43 : decode cX6_become 43 = .ok (.return_, 1) := by decide +kernel
theorem dX6_seek_0 : decode cX6_seek 0 = .ok (.iload_n 1, 1) := by decide +kernel
theorem dX6_seek_1 : decode cX6_seek 1 = .ok (.ifCond .ge 7, 3) := by decide +kernel
theorem dX6_seek_4 : decode cX6_seek 4 = .ok (.iconst 0, 1) := by decide +kernel
theorem dX6_seek_5 : decode cX6_seek 5 = .ok (.goto 4, 3) := by decide +kernel
theorem dX6_seek_8 : decode cX6_seek 8 = .ok (.iload_n 1, 1) := by decide +kernel
theorem dX6_seek_9 : decode cX6_seek 9 = .ok (.istore 4, 2) := by decide +kernel
theorem dX6_seek_11 : decode cX6_seek 11 = .ok (.iload 4, 2) := by decide +kernel
theorem dX6_seek_13 : decode cX6_seek 13 = .ok (.aload_n 0, 1) := by decide +kernel
theorem dX6_seek_14 : decode cX6_seek 14 = .ok (.getfield 21, 3) := by decide +kernel
theorem dX6_seek_17 : decode cX6_seek 17 = .ok (.if_icmp .ge 34, 3) := by decide +kernel
theorem dX6_seek_20 : decode cX6_seek 20 = .ok (.aload_n 0, 1) := by decide +kernel
theorem dX6_seek_21 : decode cX6_seek 21 = .ok (.getfield 15, 3) := by decide +kernel
theorem dX6_seek_24 : decode cX6_seek 24 = .ok (.iload 4, 2) := by decide +kernel
theorem dX6_seek_26 : decode cX6_seek 26 = .ok (.caload, 1) := by decide +kernel
theorem dX6_seek_27 : decode cX6_seek 27 = .ok (.iload_n 2, 1) := by decide +kernel
theorem dX6_seek_28 : decode cX6_seek 28 = .ok (.if_icmp .eq 14, 3) := by decide +kernel
theorem dX6_seek_31 : decode cX6_seek 31 = .ok (.aload_n 0, 1) := by decide +kernel
theorem dX6_seek_32 : decode cX6_seek 32 = .ok (.getfield 15, 3) := by decide +kernel
theorem dX6_seek_35 : decode cX6_seek 35 = .ok (.iload 4, 2) := by decide +kernel
theorem dX6_seek_37 : decode cX6_seek 37 = .ok (.caload, 1) := by decide +kernel
theorem dX6_seek_38 : decode cX6_seek 38 = .ok (.iload_n 3, 1) := by decide +kernel
theorem dX6_seek_39 : decode cX6_seek 39 = .ok (.if_icmp .ne 6, 3) := by decide +kernel
theorem dX6_seek_42 : decode cX6_seek 42 = .ok (.iload 4, 2) := by decide +kernel
theorem dX6_seek_44 : decode cX6_seek 44 = .ok (.ireturn, 1) := by decide +kernel
theorem dX6_seek_45 : decode cX6_seek 45 = .ok (.iinc 4 1, 3) := by decide +kernel
theorem dX6_seek_48 : decode cX6_seek 48 = .ok (.goto (-37), 3) := by decide +kernel
theorem dX6_seek_51 : decode cX6_seek 51 = .ok (.aload_n 0, 1) := by decide +kernel
theorem dX6_seek_52 : decode cX6_seek 52 = .ok (.getfield 21, 3) := by decide +kernel
theorem dX6_seek_55 : decode cX6_seek 55 = .ok (.ireturn, 1) := by decide +kernel
theorem dX7_init_0 : decode cX7_init 0 = .ok (.aload_n 0, 1) := by decide +kernel
theorem dX7_init_1 : decode cX7_init 1 = .ok (.invokespecial 1, 3) := by decide +kernel
theorem dX7_init_4 : decode cX7_init 4 = .ok (.aload_n 0, 1) := by decide +kernel
theorem dX7_init_5 : decode cX7_init 5 = .ok (.iconst 3, 1) := by decide +kernel
theorem dX7_init_6 : decode cX7_init 6 = .ok (.newarray .long, 2) := by decide +kernel
theorem dX7_init_8 : decode cX7_init 8 = .ok (.putfield 9, 3) := by decide +kernel
theorem dX7_init_11 : decode cX7_init 11 = .ok (.aload_n 0, 1) := by decide +kernel
theorem dX7_init_12 : decode cX7_init 12 = .ok (.iconst 3, 1) := by decide +kernel
theorem dX7_init_13 : decode cX7_init 13 = .ok (.newarray .long, 2) := by decide +kernel
theorem dX7_init_15 : decode cX7_init 15 = .ok (.putfield 15, 3) := by decide +kernel
theorem dX7_init_18 : decode cX7_init 18 = .ok (.aload_n 0, 1) := by decide +kernel
theorem dX7_init_19 : decode cX7_init 19 = .ok (.getfield 9, 3) := by decide +kernel
theorem dX7_init_22 : decode cX7_init 22 = .ok (.iconst 0, 1) := by decide +kernel
theorem dX7_init_23 : decode cX7_init 23 = .ok (.lconst 1, 1) := by decide +kernel
theorem dX7_init_24 : decode cX7_init 24 = .ok (.lastore, 1) := by decide +kernel
theorem dX7_init_25 : decode cX7_init 25 = .ok (.aload_n 0, 1) := by decide +kernel
theorem dX7_init_26 : decode cX7_init 26 = .ok (.getfield 15, 3) := by decide +kernel
theorem dX7_init_29 : decode cX7_init 29 = .ok (.iconst 0, 1) := by decide +kernel
theorem dX7_init_30 : decode cX7_init 30 = .ok (.lconst 1, 1) := by decide +kernel
theorem dX7_init_31 : decode cX7_init 31 = .ok (.lastore, 1) := by decide +kernel
theorem dX7_init_32 : decode cX7_init 32 = .ok (.return_, 1) := by decide +kernel
theorem dX7_start_0 : decode cX7_start 0 = .ok (.aload_n 0, 1) := by decide +kernel
theorem dX7_start_1 : decode cX7_start 1 = .ok (.iconst 0, 1) := by decide +kernel
theorem dX7_start_2 : decode cX7_start 2 = .ok (.putfield 18, 3) := by decide +kernel
theorem dX7_start_5 : decode cX7_start 5 = .ok (.return_, 1) := by decide +kernel
theorem dX7_open_0 : decode cX7_open 0 = .ok (.aload_n 0, 1) := by decide +kernel
theorem dX7_open_1 : decode cX7_open 1 = .ok (.getfield 18, 3) := by decide +kernel
theorem dX7_open_4 : decode cX7_open 4 = .ok (.ifCond .lt 67, 3) := by decide +kernel
theorem dX7_open_7 : decode cX7_open 7 = .ok (.aload_n 0, 1) := by decide +kernel
theorem dX7_open_8 : decode cX7_open 8 = .ok (.getfield 18, 3) := by decide +kernel
theorem dX7_open_11 : decode cX7_open 11 = .ok (.iconst 2, 1) := by decide +kernel
theorem dX7_open_12 : decode cX7_open 12 = .ok (.if_icmp .ge 59, 3) := by decide +kernel
theorem dX7_open_15 : decode cX7_open 15 = .ok (.aload_n 0, 1) := by decide +kernel
theorem dX7_open_16 : decode cX7_open 16 = .ok (.getfield 9, 3) := by decide +kernel
theorem dX7_open_19 : decode cX7_open 19 = .ok (.aload_n 0, 1) := by decide +kernel
theorem dX7_open_20 : decode cX7_open 20 = .ok (.getfield 18, 3) := by decide +kernel
theorem dX7_open_23 : decode cX7_open 23 = .ok (.iconst 1, 1) := by decide +kernel
theorem dX7_open_24 : decode cX7_open 24 = .ok (.iadd, 1) := by decide +kernel
theorem dX7_open_25 : decode cX7_open 25 = .ok (.aload_n 0, 1) := by decide +kernel
theorem dX7_open_26 : decode cX7_open 26 = .ok (.getfield 9, 3) := by decide +kernel
theorem dX7_open_29 : decode cX7_open 29 = .ok (.aload_n 0, 1) := by decide +kernel
theorem dX7_open_30 : decode cX7_open 30 = .ok (.getfield 18, 3) := by decide +kernel
theorem dX7_open_33 : decode cX7_open 33 = .ok (.laload, 1) := by decide +kernel
theorem dX7_open_34 : decode cX7_open 34 = .ok (.iload_n 2, 1) := by decide +kernel
theorem dX7_open_35 : decode cX7_open 35 = .ok (.i2l, 1) := by decide +kernel
theorem dX7_open_36 : decode cX7_open 36 = .ok (.lmul, 1) := by decide +kernel
theorem dX7_open_37 : decode cX7_open 37 = .ok (.lastore, 1) := by decide +kernel
theorem dX7_open_38 : decode cX7_open 38 = .ok (.aload_n 0, 1) := by decide +kernel
theorem dX7_open_39 : decode cX7_open 39 = .ok (.getfield 15, 3) := by decide +kernel
theorem dX7_open_42 : decode cX7_open 42 = .ok (.aload_n 0, 1) := by decide +kernel
theorem dX7_open_43 : decode cX7_open 43 = .ok (.getfield 18, 3) := by decide +kernel
theorem dX7_open_46 : decode cX7_open 46 = .ok (.iconst 1, 1) := by decide +kernel
theorem dX7_open_47 : decode cX7_open 47 = .ok (.iadd, 1) := by decide +kernel
theorem dX7_open_48 : decode cX7_open 48 = .ok (.aload_n 0, 1) := by decide +kernel
theorem dX7_open_49 : decode cX7_open 49 = .ok (.getfield 15, 3) := by decide +kernel
theorem dX7_open_52 : decode cX7_open 52 = .ok (.aload_n 0, 1) := by decide +kernel
theorem dX7_open_53 : decode cX7_open 53 = .ok (.getfield 18, 3) := by decide +kernel
theorem dX7_open_56 : decode cX7_open 56 = .ok (.laload, 1) := by decide +kernel
theorem dX7_open_57 : decode cX7_open 57 = .ok (.iload_n 1, 1) := by decide +kernel
theorem dX7_open_58 : decode cX7_open 58 = .ok (.i2l, 1) := by decide +kernel
theorem dX7_open_59 : decode cX7_open 59 = .ok (.lmul, 1) := by decide +kernel
theorem dX7_open_60 : decode cX7_open 60 = .ok (.lastore, 1) := by decide +kernel
theorem dX7_open_61 : decode cX7_open 61 = .ok (.aload_n 0, 1) := by decide +kernel
theorem dX7_open_62 : decode cX7_open 62 = .ok (.dup, 1) := by decide +kernel
theorem dX7_open_63 : decode cX7_open 63 = .ok (.getfield 18, 3) := by decide +kernel
theorem dX7_open_66 : decode cX7_open 66 = .ok (.iconst 1, 1) := by decide +kernel
theorem dX7_open_67 : decode cX7_open 67 = .ok (.iadd, 1) := by decide +kernel
theorem dX7_open_68 : decode cX7_open 68 = .ok (.putfield 18, 3) := by decide +kernel
theorem dX7_open_71 : decode cX7_open 71 = .ok (.return_, 1) := by decide +kernel
theorem dX7_close_0 : decode cX7_close 0 = .ok (.aload_n 0, 1) := by decide +kernel
theorem dX7_close_1 : decode cX7_close 1 = .ok (.getfield 18, 3) := by decide +kernel
theorem dX7_close_4 : decode cX7_close 4 = .ok (.ifCond .le 13, 3) := by decide +kernel
theorem dX7_close_7 : decode cX7_close 7 = .ok (.aload_n 0, 1) := by decide +kernel
theorem dX7_close_8 : decode cX7_close 8 = .ok (.dup, 1) := by decide +kernel
theorem dX7_close_9 : decode cX7_close 9 = .ok (.getfield 18, 3) := by decide +kernel
theorem dX7_close_12 : decode cX7_close 12 = .ok (.iconst 1, 1) := by decide +kernel
theorem dX7_close_13 : decode cX7_close 13 = .ok (.isub, 1) := by decide +kernel
theorem dX7_close_14 : decode cX7_close 14 = .ok (.putfield 18, 3) := by decide +kernel
theorem dX7_close_17 : decode cX7_close 17 = .ok (.return_, 1) := by decide +kernel
theorem dX7_apply_0 : decode cX7_apply 0 = .ok (.aload_n 0, 1) := by decide +kernel
theorem dX7_apply_1 : decode cX7_apply 1 = .ok (.getfield 18, 3) := by decide +kernel
theorem dX7_apply_4 : decode cX7_apply 4 = .ok (.ifCond .lt 11, 3) := by decide +kernel
theorem dX7_apply_7 : decode cX7_apply 7 = .ok (.aload_n 0, 1) := by decide +kernel
theorem dX7_apply_8 : decode cX7_apply 8 = .ok (.getfield 18, 3) := by decide +kernel
theorem dX7_apply_11 : decode cX7_apply 11 = .ok (.iconst 2, 1) := by decide +kernel
theorem dX7_apply_12 : decode cX7_apply 12 = .ok (.if_icmp .le 5, 3) := by decide +kernel
theorem dX7_apply_15 : decode cX7_apply 15 = .ok (.lconst 0, 1) := by decide +kernel
theorem dX7_apply_16 : decode cX7_apply 16 = .ok (.lreturn, 1) := by decide +kernel
theorem dX7_apply_17 : decode cX7_apply 17 = .ok (.lload_n 3, 1) := by decide +kernel
theorem dX7_apply_18 : decode cX7_apply 18 = .ok (.aload_n 0, 1) := by decide +kernel
theorem dX7_apply_19 : decode cX7_apply 19 = .ok (.getfield 15, 3) := by decide +kernel
theorem dX7_apply_22 : decode cX7_apply 22 = .ok (.aload_n 0, 1) := by decide +kernel
theorem dX7_apply_23 : decode cX7_apply 23 = .ok (.getfield 18, 3) := by decide +kernel
theorem dX7_apply_26 : decode cX7_apply 26 = .ok (.laload, 1) := by decide +kernel
theorem dX7_apply_27 : decode cX7_apply 27 = .ok (.lmul, 1) := by decide +kernel
theorem dX7_apply_28 : decode cX7_apply 28 = .ok (.lstore 5, 2) := by decide +kernel
theorem dX7_apply_30 : decode cX7_apply 30 = .ok (.lload 5, 2) := by decide +kernel
theorem dX7_apply_32 : decode cX7_apply 32 = .ok (.lconst 1, 1) := by decide +kernel
theorem dX7_apply_33 : decode cX7_apply 33 = .ok (.lcmp, 1) := by decide +kernel
theorem dX7_apply_34 : decode cX7_apply 34 = .ok (.ifCond .ge 7, 3) := by decide +kernel
theorem dX7_apply_37 : decode cX7_apply 37 = .ok (.lconst 0, 1) := by decide +kernel
theorem dX7_apply_38 : decode cX7_apply 38 = .ok (.goto 17, 3) := by decide +kernel
theorem dX7_apply_41 : decode cX7_apply 41 = .ok (.lload_n 1, 1) := by decide +kernel
theorem dX7_apply_42 : decode cX7_apply 42 = .ok (.aload_n 0, 1) := by decide +kernel
theorem dX7_apply_43 : decode cX7_apply 43 = .ok (.getfield 9, 3) := by decide +kernel
theorem dX7_apply_46 : decode cX7_apply 46 = .ok (.aload_n 0, 1) := by decide +kernel
theorem dX7_apply_47 : decode cX7_apply 47 = .ok (.getfield 18, 3) := by decide +kernel
theorem dX7_apply_50 : decode cX7_apply 50 = .ok (.laload, 1) := by decide +kernel
theorem dX7_apply_51 : decode cX7_apply 51 = .ok (.lmul, 1) := by decide +kernel
theorem dX7_apply_52 : decode cX7_apply 52 = .ok (.lload 5, 2) := by decide +kernel
theorem dX7_apply_54 : decode cX7_apply 54 = .ok (.ldiv, 1) := by decide +kernel
theorem dX7_apply_55 : decode cX7_apply 55 = .ok (.lreturn, 1) := by decide +kernel
theorem dX8_unfold_0 : decode cX8_unfold 0 = .ok (.aload_n 1, 1) := by decide +kernel
theorem dX8_unfold_1 : decode cX8_unfold 1 = .ok (.invokevirtual 7, 3) := by decide +kernel
theorem dX8_unfold_4 : decode cX8_unfold 4 = .ok (.aload_n 0, 1) := by decide +kernel
theorem dX8_unfold_5 : decode cX8_unfold 5 = .ok (.invokevirtual 12, 3) := by decide +kernel
theorem dX8_unfold_8 : decode cX8_unfold 8 = .ok (.istore_n 2, 1) := by decide +kernel
theorem dX8_unfold_9 : decode cX8_unfold 9 = .ok (.iconst 0, 1) := by decide +kernel
theorem dX8_unfold_10 : decode cX8_unfold 10 = .ok (.istore_n 3, 1) := by decide +kernel
theorem dX8_unfold_11 : decode cX8_unfold 11 = .ok (.iload_n 3, 1) := by decide +kernel
theorem dX8_unfold_12 : decode cX8_unfold 12 = .ok (.iload_n 2, 1) := by decide +kernel
theorem dX8_unfold_13 : decode cX8_unfold 13 = .ok (.if_icmp .ge 59, 3) := by decide +kernel
theorem dX8_unfold_16 : decode cX8_unfold 16 = .ok (.aload_n 0, 1) := by decide +kernel
theorem dX8_unfold_17 : decode cX8_unfold 17 = .ok (.iload_n 3, 1) := by decide +kernel
theorem dX8_unfold_18 : decode cX8_unfold 18 = .ok (.invokevirtual 16, 3) := by decide +kernel
theorem dX8_unfold_21 : decode cX8_unfold 21 = .ok (.bipush 91, 2) := by decide +kernel
theorem dX8_unfold_23 : decode cX8_unfold 23 = .ok (.if_icmp .ne 34, 3) := by decide +kernel
theorem dX8_unfold_26 : decode cX8_unfold 26 = .ok (.aload_n 0, 1) := by decide +kernel
theorem dX8_unfold_27 : decode cX8_unfold 27 = .ok (.iload_n 3, 1) := by decide +kernel
theorem dX8_unfold_28 : decode cX8_unfold 28 = .ok (.bipush 93, 2) := by decide +kernel
theorem dX8_unfold_30 : decode cX8_unfold 30 = .ok (.bipush 93, 2) := by decide +kernel
theorem dX8_unfold_32 : decode cX8_unfold 32 = .ok (.invokevirtual 20, 3) := by decide +kernel
theorem dX8_unfold_35 : decode cX8_unfold 35 = .ok (.istore 4, 2) := by decide +kernel
theorem dX8_unfold_37 : decode cX8_unfold 37 = .ok (.aload_n 0, 1) := by decide +kernel
theorem dX8_unfold_38 : decode cX8_unfold 38 = .ok (.iload_n 3, 1) := by decide +kernel
theorem dX8_unfold_39 : decode cX8_unfold 39 = .ok (.iload 4, 2) := by decide +kernel
theorem dX8_unfold_41 : decode cX8_unfold 41 = .ok (.aload_n 1, 1) := by decide +kernel
theorem dX8_unfold_42 : decode cX8_unfold 42 = .ok (.invokestatic 24, 3) := by decide +kernel
theorem dX8_unfold_45 : decode cX8_unfold 45 = .ok (.iload_n 3, 1) := by decide +kernel
theorem dX8_unfold_46 : decode cX8_unfold 46 = .ok (.iload 4, 2) := by decide +kernel
theorem dX8_unfold_48 : decode cX8_unfold 48 = .ok (.iconst 1, 1) := by decide +kernel
theorem dX8_unfold_49 : decode cX8_unfold 49 = .ok (.iadd, 1) := by decide +kernel
theorem dX8_unfold_50 : decode cX8_unfold 50 = .ok (.invokestatic 30, 3) := by decide +kernel
theorem dX8_unfold_53 : decode cX8_unfold 53 = .ok (.istore_n 3, 1) := by decide +kernel
theorem dX8_unfold_54 : decode cX8_unfold 54 = .ok (.goto 12, 3) := by decide +kernel
theorem dX8_unfold_57 : decode cX8_unfold 57 = .ok (.aload_n 1, 1) := by decide +kernel
theorem dX8_unfold_58 : decode cX8_unfold 58 = .ok (.aload_n 0, 1) := by decide +kernel
theorem dX8_unfold_59 : decode cX8_unfold 59 = .ok (.iload_n 3, 1) := by decide +kernel
theorem dX8_unfold_60 : decode cX8_unfold 60 = .ok (.invokevirtual 16, 3) := by decide +kernel
theorem dX8_unfold_63 : decode cX8_unfold 63 = .ok (.invokevirtual 36, 3) := by decide +kernel
theorem dX8_unfold_66 : decode cX8_unfold 66 = .ok (.iinc 3 1, 3) := by decide +kernel
theorem dX8_unfold_69 : decode cX8_unfold 69 = .ok (.goto (-58), 3) := by decide +kernel
theorem dX8_unfold_72 : decode cX8_unfold 72 = .ok (.return_, 1) := by decide +kernel
theorem dX8_appendPasses_0 : decode cX8_appendPasses 0 = .ok (.aload_n 0, 1) := by decide +kernel
theorem dX8_appendPasses_1 : decode cX8_appendPasses 1 = .ok (.iload_n 2, 1) := by decide +kernel
theorem dX8_appendPasses_2 : decode cX8_appendPasses 2 = .ok (.iconst 1, 1) := by decide +kernel
theorem dX8_appendPasses_3 : decode cX8_appendPasses 3 = .ok (.iadd, 1) := by decide +kernel
theorem dX8_appendPasses_4 : decode cX8_appendPasses 4 = .ok (.invokevirtual 16, 3) := by decide +kernel
theorem dX8_appendPasses_7 : decode cX8_appendPasses 7 = .ok (.invokestatic 40, 3) := by decide +kernel
theorem dX8_appendPasses_10 : decode cX8_appendPasses 10 = .ok (.istore 4, 2) := by decide +kernel
theorem dX8_appendPasses_12 : decode cX8_appendPasses 12 = .ok (.aload_n 0, 1) := by decide +kernel
theorem dX8_appendPasses_13 : decode cX8_appendPasses 13 = .ok (.iload_n 1, 1) := by decide +kernel
theorem dX8_appendPasses_14 : decode cX8_appendPasses 14 = .ok (.bipush 47, 2) := by decide +kernel
theorem dX8_appendPasses_16 : decode cX8_appendPasses 16 = .ok (.bipush 93, 2) := by decide +kernel
theorem dX8_appendPasses_18 : decode cX8_appendPasses 18 = .ok (.invokevirtual 20, 3) := by decide +kernel
theorem dX8_appendPasses_21 : decode cX8_appendPasses 21 = .ok (.istore 5, 2) := by decide +kernel
theorem dX8_appendPasses_23 : decode cX8_appendPasses 23 = .ok (.iconst 1, 1) := by decide +kernel
theorem dX8_appendPasses_24 : decode cX8_appendPasses 24 = .ok (.istore 6, 2) := by decide +kernel
theorem dX8_appendPasses_26 : decode cX8_appendPasses 26 = .ok (.iload 6, 2) := by decide +kernel
theorem dX8_appendPasses_28 : decode cX8_appendPasses 28 = .ok (.iload 4, 2) := by decide +kernel
theorem dX8_appendPasses_30 : decode cX8_appendPasses 30 = .ok (.if_icmp .gt 29, 3) := by decide +kernel
theorem dX8_appendPasses_33 : decode cX8_appendPasses 33 = .ok (.aload_n 3, 1) := by decide +kernel
theorem dX8_appendPasses_34 : decode cX8_appendPasses 34 = .ok (.aload_n 0, 1) := by decide +kernel
theorem dX8_appendPasses_35 : decode cX8_appendPasses 35 = .ok (.iload_n 1, 1) := by decide +kernel
theorem dX8_appendPasses_36 : decode cX8_appendPasses 36 = .ok (.iconst 1, 1) := by decide +kernel
theorem dX8_appendPasses_37 : decode cX8_appendPasses 37 = .ok (.iadd, 1) := by decide +kernel
theorem dX8_appendPasses_38 : decode cX8_appendPasses 38 = .ok (.iload 5, 2) := by decide +kernel
theorem dX8_appendPasses_40 : decode cX8_appendPasses 40 = .ok (.invokevirtual 45, 3) := by decide +kernel
theorem dX8_appendPasses_43 : decode cX8_appendPasses 43 = .ok (.aload_n 0, 1) := by decide +kernel
theorem dX8_appendPasses_44 : decode cX8_appendPasses 44 = .ok (.iload 5, 2) := by decide +kernel
theorem dX8_appendPasses_46 : decode cX8_appendPasses 46 = .ok (.iload_n 2, 1) := by decide +kernel
theorem dX8_appendPasses_47 : decode cX8_appendPasses 47 = .ok (.iload 6, 2) := by decide +kernel
theorem dX8_appendPasses_49 : decode cX8_appendPasses 49 = .ok (.aload_n 3, 1) := by decide +kernel
theorem dX8_appendPasses_50 : decode cX8_appendPasses 50 = .ok (.invokestatic 49, 3) := by decide +kernel
theorem dX8_appendPasses_53 : decode cX8_appendPasses 53 = .ok (.iinc 6 1, 3) := by decide +kernel
theorem dX8_appendPasses_56 : decode cX8_appendPasses 56 = .ok (.goto (-30), 3) := by decide +kernel
theorem dX8_appendPasses_59 : decode cX8_appendPasses 59 = .ok (.return_, 1) := by decide +kernel
theorem dX8_appendEnding_0 : decode cX8_appendEnding 0 = .ok (.iload_n 1, 1) := by decide +kernel
theorem dX8_appendEnding_1 : decode cX8_appendEnding 1 = .ok (.istore 5, 2) := by decide +kernel
theorem dX8_appendEnding_3 : decode cX8_appendEnding 3 = .ok (.iload 5, 2) := by decide +kernel
theorem dX8_appendEnding_5 : decode cX8_appendEnding 5 = .ok (.iload_n 2, 1) := by decide +kernel
theorem dX8_appendEnding_6 : decode cX8_appendEnding 6 = .ok (.if_icmp .ge 63, 3) := by decide +kernel
theorem dX8_appendEnding_9 : decode cX8_appendEnding 9 = .ok (.aload_n 0, 1) := by decide +kernel
theorem dX8_appendEnding_10 : decode cX8_appendEnding 10 = .ok (.iload 5, 2) := by decide +kernel
theorem dX8_appendEnding_12 : decode cX8_appendEnding 12 = .ok (.invokevirtual 16, 3) := by decide +kernel
theorem dX8_appendEnding_15 : decode cX8_appendEnding 15 = .ok (.bipush 47, 2) := by decide +kernel
theorem dX8_appendEnding_17 : decode cX8_appendEnding 17 = .ok (.if_icmp .ne 46, 3) := by decide +kernel
theorem dX8_appendEnding_20 : decode cX8_appendEnding 20 = .ok (.aload_n 0, 1) := by decide +kernel
theorem dX8_appendEnding_21 : decode cX8_appendEnding 21 = .ok (.iload 5, 2) := by decide +kernel
theorem dX8_appendEnding_23 : decode cX8_appendEnding 23 = .ok (.iload_n 3, 1) := by decide +kernel
theorem dX8_appendEnding_24 : decode cX8_appendEnding 24 = .ok (.invokestatic 53, 3) := by decide +kernel
theorem dX8_appendEnding_27 : decode cX8_appendEnding 27 = .ok (.ifCond .eq 36, 3) := by decide +kernel
theorem dX8_appendEnding_30 : decode cX8_appendEnding 30 = .ok (.aload_n 0, 1) := by decide +kernel
theorem dX8_appendEnding_31 : decode cX8_appendEnding 31 = .ok (.iload 5, 2) := by decide +kernel
theorem dX8_appendEnding_33 : decode cX8_appendEnding 33 = .ok (.bipush 58, 2) := by decide +kernel
theorem dX8_appendEnding_35 : decode cX8_appendEnding 35 = .ok (.bipush 58, 2) := by decide +kernel
theorem dX8_appendEnding_37 : decode cX8_appendEnding 37 = .ok (.invokevirtual 20, 3) := by decide +kernel
theorem dX8_appendEnding_40 : decode cX8_appendEnding 40 = .ok (.istore 6, 2) := by decide +kernel
theorem dX8_appendEnding_42 : decode cX8_appendEnding 42 = .ok (.aload 4, 2) := by decide +kernel
theorem dX8_appendEnding_44 : decode cX8_appendEnding 44 = .ok (.aload_n 0, 1) := by decide +kernel
theorem dX8_appendEnding_45 : decode cX8_appendEnding 45 = .ok (.iload 6, 2) := by decide +kernel
theorem dX8_appendEnding_47 : decode cX8_appendEnding 47 = .ok (.iconst 1, 1) := by decide +kernel
theorem dX8_appendEnding_48 : decode cX8_appendEnding 48 = .ok (.iadd, 1) := by decide +kernel
theorem dX8_appendEnding_49 : decode cX8_appendEnding 49 = .ok (.aload_n 0, 1) := by decide +kernel
theorem dX8_appendEnding_50 : decode cX8_appendEnding 50 = .ok (.iload 6, 2) := by decide +kernel
theorem dX8_appendEnding_52 : decode cX8_appendEnding 52 = .ok (.bipush 47, 2) := by decide +kernel
theorem dX8_appendEnding_54 : decode cX8_appendEnding 54 = .ok (.bipush 93, 2) := by decide +kernel
theorem dX8_appendEnding_56 : decode cX8_appendEnding 56 = .ok (.invokevirtual 20, 3) := by decide +kernel
theorem dX8_appendEnding_59 : decode cX8_appendEnding 59 = .ok (.invokevirtual 45, 3) := by decide +kernel
theorem dX8_appendEnding_62 : decode cX8_appendEnding 62 = .ok (.return_, 1) := by decide +kernel
theorem dX8_appendEnding_63 : decode cX8_appendEnding 63 = .ok (.iinc 5 1, 3) := by decide +kernel
theorem dX8_appendEnding_66 : decode cX8_appendEnding 66 = .ok (.goto (-63), 3) := by decide +kernel
theorem dX8_appendEnding_69 : decode cX8_appendEnding 69 = .ok (.return_, 1) := by decide +kernel
theorem dX8_isEndingOf_0 : decode cX8_isEndingOf 0 = .ok (.aload_n 0, 1) := by decide +kernel
theorem dX8_isEndingOf_1 : decode cX8_isEndingOf 1 = .ok (.iload_n 1, 1) := by decide +kernel
theorem dX8_isEndingOf_2 : decode cX8_isEndingOf 2 = .ok (.bipush 58, 2) := by decide +kernel
theorem dX8_isEndingOf_4 : decode cX8_isEndingOf 4 = .ok (.bipush 58, 2) := by decide +kernel
theorem dX8_isEndingOf_6 : decode cX8_isEndingOf 6 = .ok (.invokevirtual 20, 3) := by decide +kernel
theorem dX8_isEndingOf_9 : decode cX8_isEndingOf 9 = .ok (.istore_n 3, 1) := by decide +kernel
theorem dX8_isEndingOf_10 : decode cX8_isEndingOf 10 = .ok (.iload_n 1, 1) := by decide +kernel
theorem dX8_isEndingOf_11 : decode cX8_isEndingOf 11 = .ok (.iconst 1, 1) := by decide +kernel
theorem dX8_isEndingOf_12 : decode cX8_isEndingOf 12 = .ok (.iadd, 1) := by decide +kernel
theorem dX8_isEndingOf_13 : decode cX8_isEndingOf 13 = .ok (.istore 4, 2) := by decide +kernel
theorem dX8_isEndingOf_15 : decode cX8_isEndingOf 15 = .ok (.iload 4, 2) := by decide +kernel
theorem dX8_isEndingOf_17 : decode cX8_isEndingOf 17 = .ok (.iload_n 3, 1) := by decide +kernel
theorem dX8_isEndingOf_18 : decode cX8_isEndingOf 18 = .ok (.if_icmp .ge 24, 3) := by decide +kernel
theorem dX8_isEndingOf_21 : decode cX8_isEndingOf 21 = .ok (.aload_n 0, 1) := by decide +kernel
theorem dX8_isEndingOf_22 : decode cX8_isEndingOf 22 = .ok (.iload 4, 2) := by decide +kernel
theorem dX8_isEndingOf_24 : decode cX8_isEndingOf 24 = .ok (.invokevirtual 16, 3) := by decide +kernel
theorem dX8_isEndingOf_27 : decode cX8_isEndingOf 27 = .ok (.invokestatic 40, 3) := by decide +kernel
theorem dX8_isEndingOf_30 : decode cX8_isEndingOf 30 = .ok (.iload_n 2, 1) := by decide +kernel
theorem dX8_isEndingOf_31 : decode cX8_isEndingOf 31 = .ok (.if_icmp .ne 5, 3) := by decide +kernel
theorem dX8_isEndingOf_34 : decode cX8_isEndingOf 34 = .ok (.iconst 1, 1) := by decide +kernel
theorem dX8_isEndingOf_35 : decode cX8_isEndingOf 35 = .ok (.ireturn, 1) := by decide +kernel
theorem dX8_isEndingOf_36 : decode cX8_isEndingOf 36 = .ok (.iinc 4 1, 3) := by decide +kernel
theorem dX8_isEndingOf_39 : decode cX8_isEndingOf 39 = .ok (.goto (-24), 3) := by decide +kernel
theorem dX8_isEndingOf_42 : decode cX8_isEndingOf 42 = .ok (.iconst 0, 1) := by decide +kernel
theorem dX8_isEndingOf_43 : decode cX8_isEndingOf 43 = .ok (.ireturn, 1) := by decide +kernel
theorem dX8_sounds_0 : decode cX8_sounds 0 = .ok (.iconst 0, 1) := by decide +kernel
theorem dX8_sounds_1 : decode cX8_sounds 1 = .ok (.istore_n 1, 1) := by decide +kernel
theorem dX8_sounds_2 : decode cX8_sounds 2 = .ok (.iconst 0, 1) := by decide +kernel
theorem dX8_sounds_3 : decode cX8_sounds 3 = .ok (.istore_n 2, 1) := by decide +kernel
theorem dX8_sounds_4 : decode cX8_sounds 4 = .ok (.iload_n 2, 1) := by decide +kernel
theorem dX8_sounds_5 : decode cX8_sounds 5 = .ok (.aload_n 0, 1) := by decide +kernel
theorem dX8_sounds_6 : decode cX8_sounds 6 = .ok (.invokevirtual 12, 3) := by decide +kernel
theorem dX8_sounds_9 : decode cX8_sounds 9 = .ok (.if_icmp .ge 23, 3) := by decide +kernel
theorem dX8_sounds_12 : decode cX8_sounds 12 = .ok (.aload_n 0, 1) := by decide +kernel
theorem dX8_sounds_13 : decode cX8_sounds 13 = .ok (.iload_n 2, 1) := by decide +kernel
theorem dX8_sounds_14 : decode cX8_sounds 14 = .ok (.invokevirtual 16, 3) := by decide +kernel
theorem dX8_sounds_17 : decode cX8_sounds 17 = .ok (.invokestatic 57, 3) := by decide +kernel
theorem dX8_sounds_20 : decode cX8_sounds 20 = .ok (.ifCond .lt 6, 3) := by decide +kernel
theorem dX8_sounds_23 : decode cX8_sounds 23 = .ok (.iinc 1 1, 3) := by decide +kernel
theorem dX8_sounds_26 : decode cX8_sounds 26 = .ok (.iinc 2 1, 3) := by decide +kernel
theorem dX8_sounds_29 : decode cX8_sounds 29 = .ok (.goto (-25), 3) := by decide +kernel
theorem dX8_sounds_32 : decode cX8_sounds 32 = .ok (.iload_n 1, 1) := by decide +kernel
theorem dX8_sounds_33 : decode cX8_sounds 33 = .ok (.ireturn, 1) := by decide +kernel
theorem dX9_init_0 : decode cX9_init 0 = .ok (.aload_n 0, 1) := by decide +kernel
theorem dX9_init_1 : decode cX9_init 1 = .ok (.invokespecial 3, 3) := by decide +kernel
theorem dX9_init_4 : decode cX9_init 4 = .ok (.aload_n 0, 1) := by decide +kernel
theorem dX9_init_5 : decode cX9_init 5 = .ok (.new 9, 3) := by decide +kernel
theorem dX9_init_8 : decode cX9_init 8 = .ok (.dup, 1) := by decide +kernel
theorem dX9_init_9 : decode cX9_init 9 = .ok (.bipush 100, 2) := by decide +kernel
theorem dX9_init_11 : decode cX9_init 11 = .ok (.invokespecial 11, 3) := by decide +kernel
theorem dX9_init_14 : decode cX9_init 14 = .ok (.putfield 14, 3) := by decide +kernel
theorem dX9_init_17 : decode cX9_init 17 = .ok (.aload_n 0, 1) := by decide +kernel
theorem dX9_init_18 : decode cX9_init 18 = .ok (.new 9, 3) := by decide +kernel
theorem dX9_init_21 : decode cX9_init 21 = .ok (.dup, 1) := by decide +kernel
theorem dX9_init_22 : decode cX9_init 22 = .ok (.sipush 900, 3) := by decide +kernel
theorem dX9_init_25 : decode cX9_init 25 = .ok (.invokespecial 11, 3) := by decide +kernel
theorem dX9_init_28 : decode cX9_init 28 = .ok (.putfield 18, 3) := by decide +kernel
theorem dX9_init_31 : decode cX9_init 31 = .ok (.aload_n 0, 1) := by decide +kernel
theorem dX9_init_32 : decode cX9_init 32 = .ok (.new 21, 3) := by decide +kernel
theorem dX9_init_35 : decode cX9_init 35 = .ok (.dup, 1) := by decide +kernel
theorem dX9_init_36 : decode cX9_init 36 = .ok (.invokespecial 23, 3) := by decide +kernel
theorem dX9_init_39 : decode cX9_init 39 = .ok (.putfield 24, 3) := by decide +kernel
theorem dX9_init_42 : decode cX9_init 42 = .ok (.aload_n 0, 1) := by decide +kernel
theorem dX9_init_43 : decode cX9_init 43 = .ok (.iconst 4, 1) := by decide +kernel
theorem dX9_init_44 : decode cX9_init 44 = .ok (.anewarray 28, 3) := by decide +kernel
theorem dX9_init_47 : decode cX9_init 47 = .ok (.putfield 30, 3) := by decide +kernel
theorem dX9_init_50 : decode cX9_init 50 = .ok (.iconst 0, 1) := by decide +kernel
theorem dX9_init_51 : decode cX9_init 51 = .ok (.istore_n 1, 1) := by decide +kernel
theorem dX9_init_52 : decode cX9_init 52 = .ok (.iload_n 1, 1) := by decide +kernel
theorem dX9_init_53 : decode cX9_init 53 = .ok (.iconst 4, 1) := by decide +kernel
theorem dX9_init_54 : decode cX9_init 54 = .ok (.if_icmp .ge 22, 3) := by decide +kernel
theorem dX9_init_57 : decode cX9_init 57 = .ok (.aload_n 0, 1) := by decide +kernel
theorem dX9_init_58 : decode cX9_init 58 = .ok (.getfield 30, 3) := by decide +kernel
theorem dX9_init_61 : decode cX9_init 61 = .ok (.iload_n 1, 1) := by decide +kernel
theorem dX9_init_62 : decode cX9_init 62 = .ok (.new 28, 3) := by decide +kernel
theorem dX9_init_65 : decode cX9_init 65 = .ok (.dup, 1) := by decide +kernel
theorem dX9_init_66 : decode cX9_init 66 = .ok (.invokespecial 34, 3) := by decide +kernel
theorem dX9_init_69 : decode cX9_init 69 = .ok (.aastore, 1) := by decide +kernel
theorem dX9_init_70 : decode cX9_init 70 = .ok (.iinc 1 1, 3) := by decide +kernel
theorem dX9_init_73 : decode cX9_init 73 = .ok (.goto (-21), 3) := by decide +kernel
theorem dX9_init_76 : decode cX9_init 76 = .ok (.aload_n 0, 1) := by decide +kernel
theorem dX9_init_77 : decode cX9_init 77 = .ok (.iconst 5, 1) := by decide +kernel
theorem dX9_init_78 : decode cX9_init 78 = .ok (.anewarray 35, 3) := by decide +kernel
theorem dX9_init_81 : decode cX9_init 81 = .ok (.putfield 37, 3) := by decide +kernel
theorem dX9_init_84 : decode cX9_init 84 = .ok (.iconst 0, 1) := by decide +kernel
theorem dX9_init_85 : decode cX9_init 85 = .ok (.istore_n 1, 1) := by decide +kernel
theorem dX9_init_86 : decode cX9_init 86 = .ok (.iload_n 1, 1) := by decide +kernel
theorem dX9_init_87 : decode cX9_init 87 = .ok (.iconst 5, 1) := by decide +kernel
theorem dX9_init_88 : decode cX9_init 88 = .ok (.if_icmp .ge 22, 3) := by decide +kernel
theorem dX9_init_91 : decode cX9_init 91 = .ok (.aload_n 0, 1) := by decide +kernel
theorem dX9_init_92 : decode cX9_init 92 = .ok (.getfield 37, 3) := by decide +kernel
theorem dX9_init_95 : decode cX9_init 95 = .ok (.iload_n 1, 1) := by decide +kernel
theorem dX9_init_96 : decode cX9_init 96 = .ok (.new 35, 3) := by decide +kernel
theorem dX9_init_99 : decode cX9_init 99 = .ok (.dup, 1) := by decide +kernel
theorem dX9_init_100 : decode cX9_init 100 = .ok (.invokespecial 41, 3) := by decide +kernel
theorem dX9_init_103 : decode cX9_init 103 = .ok (.aastore, 1) := by decide +kernel
theorem dX9_init_104 : decode cX9_init 104 = .ok (.iinc 1 1, 3) := by decide +kernel
theorem dX9_init_107 : decode cX9_init 107 = .ok (.goto (-21), 3) := by decide +kernel
theorem dX9_init_110 : decode cX9_init 110 = .ok (.aload_n 0, 1) := by decide +kernel
theorem dX9_init_111 : decode cX9_init 111 = .ok (.new 42, 3) := by decide +kernel
theorem dX9_init_114 : decode cX9_init 114 = .ok (.dup, 1) := by decide +kernel
theorem dX9_init_115 : decode cX9_init 115 = .ok (.invokespecial 44, 3) := by decide +kernel
theorem dX9_init_118 : decode cX9_init 118 = .ok (.putfield 45, 3) := by decide +kernel
theorem dX9_init_121 : decode cX9_init 121 = .ok (.aload_n 0, 1) := by decide +kernel
theorem dX9_init_122 : decode cX9_init 122 = .ok (.iconst 4, 1) := by decide +kernel
theorem dX9_init_123 : decode cX9_init 123 = .ok (.putfield 49, 3) := by decide +kernel
theorem dX9_init_126 : decode cX9_init 126 = .ok (.aload_n 0, 1) := by decide +kernel
theorem dX9_init_127 : decode cX9_init 127 = .ok (.iconst 4, 1) := by decide +kernel
theorem dX9_init_128 : decode cX9_init 128 = .ok (.putfield 53, 3) := by decide +kernel
theorem dX9_init_131 : decode cX9_init 131 = .ok (.aload_n 0, 1) := by decide +kernel
theorem dX9_init_132 : decode cX9_init 132 = .ok (.iconst 1, 1) := by decide +kernel
theorem dX9_init_133 : decode cX9_init 133 = .ok (.putfield 56, 3) := by decide +kernel
theorem dX9_init_136 : decode cX9_init 136 = .ok (.aload_n 0, 1) := by decide +kernel
theorem dX9_init_137 : decode cX9_init 137 = .ok (.iconst 1, 1) := by decide +kernel
theorem dX9_init_138 : decode cX9_init 138 = .ok (.putfield 59, 3) := by decide +kernel
theorem dX9_init_141 : decode cX9_init 141 = .ok (.return_, 1) := by decide +kernel
theorem dX9_type_0 : decode cX9_type 0 = .ok (.iload_n 1, 1) := by decide +kernel
theorem dX9_type_1 : decode cX9_type 1 = .ok (.bipush 32, 2) := by decide +kernel
theorem dX9_type_3 : decode cX9_type 3 = .ok (.if_icmp .lt 9, 3) := by decide +kernel
theorem dX9_type_6 : decode cX9_type 6 = .ok (.iload_n 1, 1) := by decide +kernel
theorem dX9_type_7 : decode cX9_type 7 = .ok (.bipush 126, 2) := by decide +kernel
theorem dX9_type_9 : decode cX9_type 9 = .ok (.if_icmp .le 5, 3) := by decide +kernel
theorem dX9_type_12 : decode cX9_type 12 = .ok (.iconst (-1), 1) := by decide +kernel
theorem dX9_type_13 : decode cX9_type 13 = .ok (.ireturn, 1) := by decide +kernel
theorem dX9_type_14 : decode cX9_type 14 = .ok (.aload_n 0, 1) := by decide +kernel
theorem dX9_type_15 : decode cX9_type 15 = .ok (.getfield 14, 3) := by decide +kernel
theorem dX9_type_18 : decode cX9_type 18 = .ok (.invokevirtual 62, 3) := by decide +kernel
theorem dX9_type_21 : decode cX9_type 21 = .ok (.ifCond .eq 6, 3) := by decide +kernel
theorem dX9_type_24 : decode cX9_type 24 = .ok (.bipush (-3), 2) := by decide +kernel
theorem dX9_type_26 : decode cX9_type 26 = .ok (.ireturn, 1) := by decide +kernel
theorem dX9_type_27 : decode cX9_type 27 = .ok (.aload_n 0, 1) := by decide +kernel
theorem dX9_type_28 : decode cX9_type 28 = .ok (.getfield 14, 3) := by decide +kernel
theorem dX9_type_31 : decode cX9_type 31 = .ok (.iload_n 1, 1) := by decide +kernel
theorem dX9_type_32 : decode cX9_type 32 = .ok (.invokevirtual 66, 3) := by decide +kernel
theorem dX9_type_35 : decode cX9_type 35 = .ok (.aload_n 0, 1) := by decide +kernel
theorem dX9_type_36 : decode cX9_type 36 = .ok (.getfield 14, 3) := by decide +kernel
theorem dX9_type_39 : decode cX9_type 39 = .ok (.invokevirtual 69, 3) := by decide +kernel
theorem dX9_type_42 : decode cX9_type 42 = .ok (.ireturn, 1) := by decide +kernel
theorem dX9_clear_0 : decode cX9_clear 0 = .ok (.aload_n 0, 1) := by decide +kernel
theorem dX9_clear_1 : decode cX9_clear 1 = .ok (.getfield 14, 3) := by decide +kernel
theorem dX9_clear_4 : decode cX9_clear 4 = .ok (.invokevirtual 69, 3) := by decide +kernel
theorem dX9_clear_7 : decode cX9_clear 7 = .ok (.istore_n 1, 1) := by decide +kernel
theorem dX9_clear_8 : decode cX9_clear 8 = .ok (.aload_n 0, 1) := by decide +kernel
theorem dX9_clear_9 : decode cX9_clear 9 = .ok (.getfield 14, 3) := by decide +kernel
theorem dX9_clear_12 : decode cX9_clear 12 = .ok (.invokevirtual 73, 3) := by decide +kernel
theorem dX9_clear_15 : decode cX9_clear 15 = .ok (.iload_n 1, 1) := by decide +kernel
theorem dX9_clear_16 : decode cX9_clear 16 = .ok (.ireturn, 1) := by decide +kernel
theorem dX9_read_0 : decode cX9_read 0 = .ok (.aload_n 0, 1) := by decide +kernel
theorem dX9_read_1 : decode cX9_read 1 = .ok (.iload_n 1, 1) := by decide +kernel
theorem dX9_read_2 : decode cX9_read 2 = .ok (.invokevirtual 76, 3) := by decide +kernel
theorem dX9_read_5 : decode cX9_read 5 = .ok (.astore_n 2, 1) := by decide +kernel
theorem dX9_read_6 : decode cX9_read 6 = .ok (.aload_n 2, 1) := by decide +kernel
theorem dX9_read_7 : decode cX9_read 7 = .ok (.ifnonnull 5, 3) := by decide +kernel
theorem dX9_read_10 : decode cX9_read 10 = .ok (.iconst (-1), 1) := by decide +kernel
theorem dX9_read_11 : decode cX9_read 11 = .ok (.ireturn, 1) := by decide +kernel
theorem dX9_read_12 : decode cX9_read 12 = .ok (.aload_n 0, 1) := by decide +kernel
theorem dX9_read_13 : decode cX9_read 13 = .ok (.getfield 24, 3) := by decide +kernel
theorem dX9_read_16 : decode cX9_read 16 = .ok (.aload_n 0, 1) := by decide +kernel
theorem dX9_read_17 : decode cX9_read 17 = .ok (.getfield 14, 3) := by decide +kernel
theorem dX9_read_20 : decode cX9_read 20 = .ok (.invokevirtual 80, 3) := by decide +kernel
theorem dX9_read_23 : decode cX9_read 23 = .ok (.istore_n 3, 1) := by decide +kernel
theorem dX9_read_24 : decode cX9_read 24 = .ok (.iload_n 3, 1) := by decide +kernel
theorem dX9_read_25 : decode cX9_read 25 = .ok (.bipush (-9), 2) := by decide +kernel
theorem dX9_read_27 : decode cX9_read 27 = .ok (.if_icmp .eq 8, 3) := by decide +kernel
theorem dX9_read_30 : decode cX9_read 30 = .ok (.bipush (-100), 2) := by decide +kernel
theorem dX9_read_32 : decode cX9_read 32 = .ok (.iload_n 3, 1) := by decide +kernel
theorem dX9_read_33 : decode cX9_read 33 = .ok (.isub, 1) := by decide +kernel
theorem dX9_read_34 : decode cX9_read 34 = .ok (.ireturn, 1) := by decide +kernel
theorem dX9_read_35 : decode cX9_read 35 = .ok (.aload_n 0, 1) := by decide +kernel
theorem dX9_read_36 : decode cX9_read 36 = .ok (.getfield 14, 3) := by decide +kernel
theorem dX9_read_39 : decode cX9_read 39 = .ok (.aload_n 0, 1) := by decide +kernel
theorem dX9_read_40 : decode cX9_read 40 = .ok (.getfield 18, 3) := by decide +kernel
theorem dX9_read_43 : decode cX9_read 43 = .ok (.invokestatic 84, 3) := by decide +kernel
theorem dX9_read_46 : decode cX9_read 46 = .ok (.aload_n 0, 1) := by decide +kernel
theorem dX9_read_47 : decode cX9_read 47 = .ok (.getfield 18, 3) := by decide +kernel
theorem dX9_read_50 : decode cX9_read 50 = .ok (.invokestatic 90, 3) := by decide +kernel
theorem dX9_read_53 : decode cX9_read 53 = .ok (.sipush 300, 3) := by decide +kernel
theorem dX9_read_56 : decode cX9_read 56 = .ok (.if_icmp .le 6, 3) := by decide +kernel
theorem dX9_read_59 : decode cX9_read 59 = .ok (.bipush (-3), 2) := by decide +kernel
theorem dX9_read_61 : decode cX9_read 61 = .ok (.ireturn, 1) := by decide +kernel
theorem dX9_read_62 : decode cX9_read 62 = .ok (.aload_n 0, 1) := by decide +kernel
theorem dX9_read_63 : decode cX9_read 63 = .ok (.invokevirtual 93, 3) := by decide +kernel
theorem dX9_read_66 : decode cX9_read 66 = .ok (.aload_n 2, 1) := by decide +kernel
theorem dX9_read_67 : decode cX9_read 67 = .ok (.aload_n 0, 1) := by decide +kernel
theorem dX9_read_68 : decode cX9_read 68 = .ok (.getfield 14, 3) := by decide +kernel
theorem dX9_read_71 : decode cX9_read 71 = .ok (.invokevirtual 96, 3) := by decide +kernel
theorem dX9_read_74 : decode cX9_read 74 = .ok (.aload_n 0, 1) := by decide +kernel
theorem dX9_read_75 : decode cX9_read 75 = .ok (.getfield 14, 3) := by decide +kernel
theorem dX9_read_78 : decode cX9_read 78 = .ok (.invokevirtual 73, 3) := by decide +kernel
theorem dX9_read_81 : decode cX9_read 81 = .ok (.aload_n 2, 1) := by decide +kernel
theorem dX9_read_82 : decode cX9_read 82 = .ok (.getfield 100, 3) := by decide +kernel
theorem dX9_read_85 : decode cX9_read 85 = .ok (.invokevirtual 104, 3) := by decide +kernel
theorem dX9_read_88 : decode cX9_read 88 = .ok (.ireturn, 1) := by decide +kernel
theorem dX9_copy_0 : decode cX9_copy 0 = .ok (.aload_n 0, 1) := by decide +kernel
theorem dX9_copy_1 : decode cX9_copy 1 = .ok (.iload_n 1, 1) := by decide +kernel
theorem dX9_copy_2 : decode cX9_copy 2 = .ok (.invokevirtual 76, 3) := by decide +kernel
theorem dX9_copy_5 : decode cX9_copy 5 = .ok (.astore_n 3, 1) := by decide +kernel
theorem dX9_copy_6 : decode cX9_copy 6 = .ok (.aload_n 0, 1) := by decide +kernel
theorem dX9_copy_7 : decode cX9_copy 7 = .ok (.iload_n 2, 1) := by decide +kernel
theorem dX9_copy_8 : decode cX9_copy 8 = .ok (.invokevirtual 76, 3) := by decide +kernel
theorem dX9_copy_11 : decode cX9_copy 11 = .ok (.astore 4, 2) := by decide +kernel
theorem dX9_copy_13 : decode cX9_copy 13 = .ok (.aload_n 3, 1) := by decide +kernel
theorem dX9_copy_14 : decode cX9_copy 14 = .ok (.ifnull 8, 3) := by decide +kernel
theorem dX9_copy_17 : decode cX9_copy 17 = .ok (.aload 4, 2) := by decide +kernel
theorem dX9_copy_19 : decode cX9_copy 19 = .ok (.ifnonnull 5, 3) := by decide +kernel
theorem dX9_copy_22 : decode cX9_copy 22 = .ok (.iconst (-1), 1) := by decide +kernel
theorem dX9_copy_23 : decode cX9_copy 23 = .ok (.ireturn, 1) := by decide +kernel
theorem dX9_copy_24 : decode cX9_copy 24 = .ok (.aload_n 0, 1) := by decide +kernel
theorem dX9_copy_25 : decode cX9_copy 25 = .ok (.invokevirtual 93, 3) := by decide +kernel
theorem dX9_copy_28 : decode cX9_copy 28 = .ok (.aload 4, 2) := by decide +kernel
theorem dX9_copy_30 : decode cX9_copy 30 = .ok (.aload_n 3, 1) := by decide +kernel
theorem dX9_copy_31 : decode cX9_copy 31 = .ok (.getfield 109, 3) := by decide +kernel
theorem dX9_copy_34 : decode cX9_copy 34 = .ok (.invokevirtual 96, 3) := by decide +kernel
theorem dX9_copy_37 : decode cX9_copy 37 = .ok (.aload 4, 2) := by decide +kernel
theorem dX9_copy_39 : decode cX9_copy 39 = .ok (.getfield 100, 3) := by decide +kernel
theorem dX9_copy_42 : decode cX9_copy 42 = .ok (.invokevirtual 104, 3) := by decide +kernel
theorem dX9_copy_45 : decode cX9_copy 45 = .ok (.ireturn, 1) := by decide +kernel
theorem dX9_spread_0 : decode cX9_spread 0 = .ok (.aload_n 0, 1) := by decide +kernel
theorem dX9_spread_1 : decode cX9_spread 1 = .ok (.iload_n 1, 1) := by decide +kernel
theorem dX9_spread_2 : decode cX9_spread 2 = .ok (.invokevirtual 76, 3) := by decide +kernel
theorem dX9_spread_5 : decode cX9_spread 5 = .ok (.astore 5, 2) := by decide +kernel
theorem dX9_spread_7 : decode cX9_spread 7 = .ok (.aload 5, 2) := by decide +kernel
theorem dX9_spread_9 : decode cX9_spread 9 = .ok (.ifnull 23, 3) := by decide +kernel
theorem dX9_spread_12 : decode cX9_spread 12 = .ok (.iload_n 3, 1) := by decide +kernel
theorem dX9_spread_13 : decode cX9_spread 13 = .ok (.iconst 1, 1) := by decide +kernel
theorem dX9_spread_14 : decode cX9_spread 14 = .ok (.if_icmp .lt 18, 3) := by decide +kernel
theorem dX9_spread_17 : decode cX9_spread 17 = .ok (.iload_n 3, 1) := by decide +kernel
theorem dX9_spread_18 : decode cX9_spread 18 = .ok (.bipush 32, 2) := by decide +kernel
theorem dX9_spread_20 : decode cX9_spread 20 = .ok (.if_icmp .gt 12, 3) := by decide +kernel
theorem dX9_spread_23 : decode cX9_spread 23 = .ok (.iload_n 2, 1) := by decide +kernel
theorem dX9_spread_24 : decode cX9_spread 24 = .ok (.ifCond .lt 8, 3) := by decide +kernel
theorem dX9_spread_27 : decode cX9_spread 27 = .ok (.iload_n 2, 1) := by decide +kernel
theorem dX9_spread_28 : decode cX9_spread 28 = .ok (.iload_n 3, 1) := by decide +kernel
theorem dX9_spread_29 : decode cX9_spread 29 = .ok (.if_icmp .le 5, 3) := by decide +kernel
theorem dX9_spread_32 : decode cX9_spread 32 = .ok (.iconst (-1), 1) := by decide +kernel
theorem dX9_spread_33 : decode cX9_spread 33 = .ok (.ireturn, 1) := by decide +kernel
theorem dX9_spread_34 : decode cX9_spread 34 = .ok (.iload 4, 2) := by decide +kernel
theorem dX9_spread_36 : decode cX9_spread 36 = .ok (.invokestatic 112, 3) := by decide +kernel
theorem dX9_spread_39 : decode cX9_spread 39 = .ok (.ifCond .ge 5, 3) := by decide +kernel
theorem dX9_spread_42 : decode cX9_spread 42 = .ok (.iconst (-1), 1) := by decide +kernel
theorem dX9_spread_43 : decode cX9_spread 43 = .ok (.ireturn, 1) := by decide +kernel
theorem dX9_spread_44 : decode cX9_spread 44 = .ok (.aload_n 0, 1) := by decide +kernel
theorem dX9_spread_45 : decode cX9_spread 45 = .ok (.invokevirtual 93, 3) := by decide +kernel
theorem dX9_spread_48 : decode cX9_spread 48 = .ok (.aload_n 0, 1) := by decide +kernel
theorem dX9_spread_49 : decode cX9_spread 49 = .ok (.getfield 18, 3) := by decide +kernel
theorem dX9_spread_52 : decode cX9_spread 52 = .ok (.invokevirtual 73, 3) := by decide +kernel
theorem dX9_spread_55 : decode cX9_spread 55 = .ok (.iconst 0, 1) := by decide +kernel
theorem dX9_spread_56 : decode cX9_spread 56 = .ok (.istore 6, 2) := by decide +kernel
theorem dX9_spread_58 : decode cX9_spread 58 = .ok (.iload 6, 2) := by decide +kernel
theorem dX9_spread_60 : decode cX9_spread 60 = .ok (.iload_n 3, 1) := by decide +kernel
theorem dX9_spread_61 : decode cX9_spread 61 = .ok (.if_icmp .ge 37, 3) := by decide +kernel
theorem dX9_spread_64 : decode cX9_spread 64 = .ok (.iload 6, 2) := by decide +kernel
theorem dX9_spread_66 : decode cX9_spread 66 = .ok (.iload_n 2, 1) := by decide +kernel
theorem dX9_spread_67 : decode cX9_spread 67 = .ok (.imul, 1) := by decide +kernel
theorem dX9_spread_68 : decode cX9_spread 68 = .ok (.iload_n 3, 1) := by decide +kernel
theorem dX9_spread_69 : decode cX9_spread 69 = .ok (.irem, 1) := by decide +kernel
theorem dX9_spread_70 : decode cX9_spread 70 = .ok (.iload_n 2, 1) := by decide +kernel
theorem dX9_spread_71 : decode cX9_spread 71 = .ok (.if_icmp .lt 12, 3) := by decide +kernel
theorem dX9_spread_74 : decode cX9_spread 74 = .ok (.aload_n 0, 1) := by decide +kernel
theorem dX9_spread_75 : decode cX9_spread 75 = .ok (.getfield 18, 3) := by decide +kernel
theorem dX9_spread_78 : decode cX9_spread 78 = .ok (.bipush 114, 2) := by decide +kernel
theorem dX9_spread_80 : decode cX9_spread 80 = .ok (.invokevirtual 66, 3) := by decide +kernel
theorem dX9_spread_83 : decode cX9_spread 83 = .ok (.aload_n 0, 1) := by decide +kernel
theorem dX9_spread_84 : decode cX9_spread 84 = .ok (.getfield 18, 3) := by decide +kernel
theorem dX9_spread_87 : decode cX9_spread 87 = .ok (.iload 4, 2) := by decide +kernel
theorem dX9_spread_89 : decode cX9_spread 89 = .ok (.invokevirtual 66, 3) := by decide +kernel
theorem dX9_spread_92 : decode cX9_spread 92 = .ok (.iinc 6 1, 3) := by decide +kernel
theorem dX9_spread_95 : decode cX9_spread 95 = .ok (.goto (-37), 3) := by decide +kernel
theorem dX9_spread_98 : decode cX9_spread 98 = .ok (.aload 5, 2) := by decide +kernel
theorem dX9_spread_100 : decode cX9_spread 100 = .ok (.aload_n 0, 1) := by decide +kernel
theorem dX9_spread_101 : decode cX9_spread 101 = .ok (.getfield 18, 3) := by decide +kernel
theorem dX9_spread_104 : decode cX9_spread 104 = .ok (.invokevirtual 96, 3) := by decide +kernel
theorem dX9_spread_107 : decode cX9_spread 107 = .ok (.aload 5, 2) := by decide +kernel
theorem dX9_spread_109 : decode cX9_spread 109 = .ok (.getfield 100, 3) := by decide +kernel
theorem dX9_spread_112 : decode cX9_spread 112 = .ok (.invokevirtual 104, 3) := by decide +kernel
theorem dX9_spread_115 : decode cX9_spread 115 = .ok (.ireturn, 1) := by decide +kernel
theorem dX9_textOf_0 : decode cX9_textOf 0 = .ok (.aload_n 0, 1) := by decide +kernel
theorem dX9_textOf_1 : decode cX9_textOf 1 = .ok (.iload_n 1, 1) := by decide +kernel
theorem dX9_textOf_2 : decode cX9_textOf 2 = .ok (.invokevirtual 76, 3) := by decide +kernel
theorem dX9_textOf_5 : decode cX9_textOf 5 = .ok (.astore_n 3, 1) := by decide +kernel
theorem dX9_textOf_6 : decode cX9_textOf 6 = .ok (.aload_n 3, 1) := by decide +kernel
theorem dX9_textOf_7 : decode cX9_textOf 7 = .ok (.ifnull 7, 3) := by decide +kernel
theorem dX9_textOf_10 : decode cX9_textOf 10 = .ok (.iload_n 2, 1) := by decide +kernel
theorem dX9_textOf_11 : decode cX9_textOf 11 = .ok (.ifCond .ge 5, 3) := by decide +kernel
theorem dX9_textOf_14 : decode cX9_textOf 14 = .ok (.iconst (-1), 1) := by decide +kernel
theorem dX9_textOf_15 : decode cX9_textOf 15 = .ok (.ireturn, 1) := by decide +kernel
theorem dX9_textOf_16 : decode cX9_textOf 16 = .ok (.aload_n 3, 1) := by decide +kernel
theorem dX9_textOf_17 : decode cX9_textOf 17 = .ok (.getfield 109, 3) := by decide +kernel
theorem dX9_textOf_20 : decode cX9_textOf 20 = .ok (.iload_n 2, 1) := by decide +kernel
theorem dX9_textOf_21 : decode cX9_textOf 21 = .ok (.invokevirtual 118, 3) := by decide +kernel
theorem dX9_textOf_24 : decode cX9_textOf 24 = .ok (.ireturn, 1) := by decide +kernel
theorem dX9_unfolded_0 : decode cX9_unfolded 0 = .ok (.aload_n 0, 1) := by decide +kernel
theorem dX9_unfolded_1 : decode cX9_unfolded 1 = .ok (.iload_n 1, 1) := by decide +kernel
theorem dX9_unfolded_2 : decode cX9_unfolded 2 = .ok (.invokevirtual 76, 3) := by decide +kernel
theorem dX9_unfolded_5 : decode cX9_unfolded 5 = .ok (.astore_n 3, 1) := by decide +kernel
theorem dX9_unfolded_6 : decode cX9_unfolded 6 = .ok (.aload_n 3, 1) := by decide +kernel
theorem dX9_unfolded_7 : decode cX9_unfolded 7 = .ok (.ifnull 7, 3) := by decide +kernel
theorem dX9_unfolded_10 : decode cX9_unfolded 10 = .ok (.iload_n 2, 1) := by decide +kernel
theorem dX9_unfolded_11 : decode cX9_unfolded 11 = .ok (.ifCond .ge 5, 3) := by decide +kernel
theorem dX9_unfolded_14 : decode cX9_unfolded 14 = .ok (.iconst (-1), 1) := by decide +kernel
theorem dX9_unfolded_15 : decode cX9_unfolded 15 = .ok (.ireturn, 1) := by decide +kernel
theorem dX9_unfolded_16 : decode cX9_unfolded 16 = .ok (.aload_n 3, 1) := by decide +kernel
theorem dX9_unfolded_17 : decode cX9_unfolded 17 = .ok (.getfield 121, 3) := by decide +kernel
theorem dX9_unfolded_20 : decode cX9_unfolded 20 = .ok (.iload_n 2, 1) := by decide +kernel
theorem dX9_unfolded_21 : decode cX9_unfolded 21 = .ok (.invokevirtual 118, 3) := by decide +kernel
theorem dX9_unfolded_24 : decode cX9_unfolded 24 = .ok (.ireturn, 1) := by decide +kernel
theorem dX9_setMeter_0 : decode cX9_setMeter 0 = .ok (.iload_n 1, 1) := by decide +kernel
theorem dX9_setMeter_1 : decode cX9_setMeter 1 = .ok (.iconst 1, 1) := by decide +kernel
theorem dX9_setMeter_2 : decode cX9_setMeter 2 = .ok (.if_icmp .lt 16, 3) := by decide +kernel
theorem dX9_setMeter_5 : decode cX9_setMeter 5 = .ok (.iload_n 1, 1) := by decide +kernel
theorem dX9_setMeter_6 : decode cX9_setMeter 6 = .ok (.bipush 16, 2) := by decide +kernel
theorem dX9_setMeter_8 : decode cX9_setMeter 8 = .ok (.if_icmp .gt 10, 3) := by decide +kernel
theorem dX9_setMeter_11 : decode cX9_setMeter 11 = .ok (.iload_n 2, 1) := by decide +kernel
theorem dX9_setMeter_12 : decode cX9_setMeter 12 = .ok (.invokestatic 124, 3) := by decide +kernel
theorem dX9_setMeter_15 : decode cX9_setMeter 15 = .ok (.ifCond .ne 5, 3) := by decide +kernel
theorem dX9_setMeter_18 : decode cX9_setMeter 18 = .ok (.iconst (-1), 1) := by decide +kernel
theorem dX9_setMeter_19 : decode cX9_setMeter 19 = .ok (.ireturn, 1) := by decide +kernel
theorem dX9_setMeter_20 : decode cX9_setMeter 20 = .ok (.aload_n 0, 1) := by decide +kernel
theorem dX9_setMeter_21 : decode cX9_setMeter 21 = .ok (.invokevirtual 93, 3) := by decide +kernel
theorem dX9_setMeter_24 : decode cX9_setMeter 24 = .ok (.bipush 100, 2) := by decide +kernel
theorem dX9_setMeter_26 : decode cX9_setMeter 26 = .ok (.aload_n 0, 1) := by decide +kernel
theorem dX9_setMeter_27 : decode cX9_setMeter 27 = .ok (.getfield 49, 3) := by decide +kernel
theorem dX9_setMeter_30 : decode cX9_setMeter 30 = .ok (.imul, 1) := by decide +kernel
theorem dX9_setMeter_31 : decode cX9_setMeter 31 = .ok (.aload_n 0, 1) := by decide +kernel
theorem dX9_setMeter_32 : decode cX9_setMeter 32 = .ok (.getfield 53, 3) := by decide +kernel
theorem dX9_setMeter_35 : decode cX9_setMeter 35 = .ok (.iadd, 1) := by decide +kernel
theorem dX9_setMeter_36 : decode cX9_setMeter 36 = .ok (.istore_n 3, 1) := by decide +kernel
theorem dX9_setMeter_37 : decode cX9_setMeter 37 = .ok (.aload_n 0, 1) := by decide +kernel
theorem dX9_setMeter_38 : decode cX9_setMeter 38 = .ok (.iload_n 1, 1) := by decide +kernel
theorem dX9_setMeter_39 : decode cX9_setMeter 39 = .ok (.putfield 49, 3) := by decide +kernel
theorem dX9_setMeter_42 : decode cX9_setMeter 42 = .ok (.aload_n 0, 1) := by decide +kernel
theorem dX9_setMeter_43 : decode cX9_setMeter 43 = .ok (.iload_n 2, 1) := by decide +kernel
theorem dX9_setMeter_44 : decode cX9_setMeter 44 = .ok (.putfield 53, 3) := by decide +kernel
theorem dX9_setMeter_47 : decode cX9_setMeter 47 = .ok (.iload_n 3, 1) := by decide +kernel
theorem dX9_setMeter_48 : decode cX9_setMeter 48 = .ok (.ireturn, 1) := by decide +kernel
theorem dX9_setSwing_0 : decode cX9_setSwing 0 = .ok (.iload_n 1, 1) := by decide +kernel
theorem dX9_setSwing_1 : decode cX9_setSwing 1 = .ok (.iconst 1, 1) := by decide +kernel
theorem dX9_setSwing_2 : decode cX9_setSwing 2 = .ok (.if_icmp .lt 20, 3) := by decide +kernel
theorem dX9_setSwing_5 : decode cX9_setSwing 5 = .ok (.iload_n 1, 1) := by decide +kernel
theorem dX9_setSwing_6 : decode cX9_setSwing 6 = .ok (.bipush 9, 2) := by decide +kernel
theorem dX9_setSwing_8 : decode cX9_setSwing 8 = .ok (.if_icmp .gt 14, 3) := by decide +kernel
theorem dX9_setSwing_11 : decode cX9_setSwing 11 = .ok (.iload_n 2, 1) := by decide +kernel
theorem dX9_setSwing_12 : decode cX9_setSwing 12 = .ok (.iconst 1, 1) := by decide +kernel
theorem dX9_setSwing_13 : decode cX9_setSwing 13 = .ok (.if_icmp .lt 9, 3) := by decide +kernel
theorem dX9_setSwing_16 : decode cX9_setSwing 16 = .ok (.iload_n 2, 1) := by decide +kernel
theorem dX9_setSwing_17 : decode cX9_setSwing 17 = .ok (.bipush 9, 2) := by decide +kernel
theorem dX9_setSwing_19 : decode cX9_setSwing 19 = .ok (.if_icmp .le 5, 3) := by decide +kernel
theorem dX9_setSwing_22 : decode cX9_setSwing 22 = .ok (.iconst (-1), 1) := by decide +kernel
theorem dX9_setSwing_23 : decode cX9_setSwing 23 = .ok (.ireturn, 1) := by decide +kernel
theorem dX9_setSwing_24 : decode cX9_setSwing 24 = .ok (.aload_n 0, 1) := by decide +kernel
theorem dX9_setSwing_25 : decode cX9_setSwing 25 = .ok (.invokevirtual 93, 3) := by decide +kernel
theorem dX9_setSwing_28 : decode cX9_setSwing 28 = .ok (.bipush 10, 2) := by decide +kernel
theorem dX9_setSwing_30 : decode cX9_setSwing 30 = .ok (.aload_n 0, 1) := by decide +kernel
theorem dX9_setSwing_31 : decode cX9_setSwing 31 = .ok (.getfield 56, 3) := by decide +kernel
theorem dX9_setSwing_34 : decode cX9_setSwing 34 = .ok (.imul, 1) := by decide +kernel
theorem dX9_setSwing_35 : decode cX9_setSwing 35 = .ok (.aload_n 0, 1) := by decide +kernel
theorem dX9_setSwing_36 : decode cX9_setSwing 36 = .ok (.getfield 59, 3) := by decide +kernel
theorem dX9_setSwing_39 : decode cX9_setSwing 39 = .ok (.iadd, 1) := by decide +kernel
theorem dX9_setSwing_40 : decode cX9_setSwing 40 = .ok (.istore_n 3, 1) := by decide +kernel
theorem dX9_setSwing_41 : decode cX9_setSwing 41 = .ok (.aload_n 0, 1) := by decide +kernel
theorem dX9_setSwing_42 : decode cX9_setSwing 42 = .ok (.iload_n 1, 1) := by decide +kernel
theorem dX9_setSwing_43 : decode cX9_setSwing 43 = .ok (.putfield 56, 3) := by decide +kernel
theorem dX9_setSwing_46 : decode cX9_setSwing 46 = .ok (.aload_n 0, 1) := by decide +kernel
theorem dX9_setSwing_47 : decode cX9_setSwing 47 = .ok (.iload_n 2, 1) := by decide +kernel
theorem dX9_setSwing_48 : decode cX9_setSwing 48 = .ok (.putfield 59, 3) := by decide +kernel
theorem dX9_setSwing_51 : decode cX9_setSwing 51 = .ok (.iload_n 3, 1) := by decide +kernel
theorem dX9_setSwing_52 : decode cX9_setSwing 52 = .ok (.ireturn, 1) := by decide +kernel
theorem dX9_events_0 : decode cX9_events 0 = .ok (.aload_n 0, 1) := by decide +kernel
theorem dX9_events_1 : decode cX9_events 1 = .ok (.iload_n 1, 1) := by decide +kernel
theorem dX9_events_2 : decode cX9_events 2 = .ok (.invokevirtual 76, 3) := by decide +kernel
theorem dX9_events_5 : decode cX9_events 5 = .ok (.astore_n 2, 1) := by decide +kernel
theorem dX9_events_6 : decode cX9_events 6 = .ok (.aload_n 2, 1) := by decide +kernel
theorem dX9_events_7 : decode cX9_events 7 = .ok (.ifnonnull 7, 3) := by decide +kernel
theorem dX9_events_10 : decode cX9_events 10 = .ok (.iconst (-1), 1) := by decide +kernel
theorem dX9_events_11 : decode cX9_events 11 = .ok (.goto 10, 3) := by decide +kernel
theorem dX9_events_14 : decode cX9_events 14 = .ok (.aload_n 2, 1) := by decide +kernel
theorem dX9_events_15 : decode cX9_events 15 = .ok (.getfield 100, 3) := by decide +kernel
theorem dX9_events_18 : decode cX9_events 18 = .ok (.invokevirtual 104, 3) := by decide +kernel
theorem dX9_events_21 : decode cX9_events 21 = .ok (.ireturn, 1) := by decide +kernel
theorem dX9_length_0 : decode cX9_length 0 = .ok (.aload_n 0, 1) := by decide +kernel
theorem dX9_length_1 : decode cX9_length 1 = .ok (.iload_n 1, 1) := by decide +kernel
theorem dX9_length_2 : decode cX9_length 2 = .ok (.invokevirtual 76, 3) := by decide +kernel
theorem dX9_length_5 : decode cX9_length 5 = .ok (.astore_n 3, 1) := by decide +kernel
theorem dX9_length_6 : decode cX9_length 6 = .ok (.aload_n 3, 1) := by decide +kernel
theorem dX9_length_7 : decode cX9_length 7 = .ok (.ifnull 10, 3) := by decide +kernel
theorem dX9_length_10 : decode cX9_length 10 = .ok (.iload_n 2, 1) := by decide +kernel
theorem dX9_length_11 : decode cX9_length 11 = .ok (.invokestatic 128, 3) := by decide +kernel
theorem dX9_length_14 : decode cX9_length 14 = .ok (.ifCond .ne 7, 3) := by decide +kernel
theorem dX9_length_17 : decode cX9_length 17 = .ok (.ldc2_w 131, 3) := by decide +kernel
theorem dX9_length_20 : decode cX9_length 20 = .ok (.lreturn, 1) := by decide +kernel
theorem dX9_length_21 : decode cX9_length 21 = .ok (.aload_n 3, 1) := by decide +kernel
theorem dX9_length_22 : decode cX9_length 22 = .ok (.getfield 100, 3) := by decide +kernel
theorem dX9_length_25 : decode cX9_length 25 = .ok (.invokevirtual 133, 3) := by decide +kernel
theorem dX9_length_28 : decode cX9_length 28 = .ok (.ldc2_w 137, 3) := by decide +kernel
theorem dX9_length_31 : decode cX9_length 31 = .ok (.iload_n 2, 1) := by decide +kernel
theorem dX9_length_32 : decode cX9_length 32 = .ok (.invokestatic 139, 3) := by decide +kernel
theorem dX9_length_35 : decode cX9_length 35 = .ok (.lreturn, 1) := by decide +kernel
theorem dX9_onset_0 : decode cX9_onset 0 = .ok (.aload_n 0, 1) := by decide +kernel
theorem dX9_onset_1 : decode cX9_onset 1 = .ok (.iload_n 1, 1) := by decide +kernel
theorem dX9_onset_2 : decode cX9_onset 2 = .ok (.invokevirtual 76, 3) := by decide +kernel
theorem dX9_onset_5 : decode cX9_onset 5 = .ok (.astore 4, 2) := by decide +kernel
theorem dX9_onset_7 : decode cX9_onset 7 = .ok (.aload 4, 2) := by decide +kernel
theorem dX9_onset_9 : decode cX9_onset 9 = .ok (.ifnull 22, 3) := by decide +kernel
theorem dX9_onset_12 : decode cX9_onset 12 = .ok (.aload 4, 2) := by decide +kernel
theorem dX9_onset_14 : decode cX9_onset 14 = .ok (.getfield 100, 3) := by decide +kernel
theorem dX9_onset_17 : decode cX9_onset 17 = .ok (.iload_n 2, 1) := by decide +kernel
theorem dX9_onset_18 : decode cX9_onset 18 = .ok (.invokevirtual 143, 3) := by decide +kernel
theorem dX9_onset_21 : decode cX9_onset 21 = .ok (.ifCond .eq 10, 3) := by decide +kernel
theorem dX9_onset_24 : decode cX9_onset 24 = .ok (.iload_n 3, 1) := by decide +kernel
theorem dX9_onset_25 : decode cX9_onset 25 = .ok (.invokestatic 128, 3) := by decide +kernel
theorem dX9_onset_28 : decode cX9_onset 28 = .ok (.ifCond .ne 7, 3) := by decide +kernel
theorem dX9_onset_31 : decode cX9_onset 31 = .ok (.ldc2_w 131, 3) := by decide +kernel
theorem dX9_onset_34 : decode cX9_onset 34 = .ok (.lreturn, 1) := by decide +kernel
theorem dX9_onset_35 : decode cX9_onset 35 = .ok (.aload 4, 2) := by decide +kernel
theorem dX9_onset_37 : decode cX9_onset 37 = .ok (.getfield 100, 3) := by decide +kernel
theorem dX9_onset_40 : decode cX9_onset 40 = .ok (.iload_n 2, 1) := by decide +kernel
theorem dX9_onset_41 : decode cX9_onset 41 = .ok (.invokevirtual 146, 3) := by decide +kernel
theorem dX9_onset_44 : decode cX9_onset 44 = .ok (.ldc2_w 137, 3) := by decide +kernel
theorem dX9_onset_47 : decode cX9_onset 47 = .ok (.iload_n 3, 1) := by decide +kernel
theorem dX9_onset_48 : decode cX9_onset 48 = .ok (.invokestatic 139, 3) := by decide +kernel
theorem dX9_onset_51 : decode cX9_onset 51 = .ok (.lreturn, 1) := by decide +kernel
theorem dX9_lasts_0 : decode cX9_lasts 0 = .ok (.aload_n 0, 1) := by decide +kernel
theorem dX9_lasts_1 : decode cX9_lasts 1 = .ok (.iload_n 1, 1) := by decide +kernel
theorem dX9_lasts_2 : decode cX9_lasts 2 = .ok (.invokevirtual 76, 3) := by decide +kernel
theorem dX9_lasts_5 : decode cX9_lasts 5 = .ok (.astore 4, 2) := by decide +kernel
theorem dX9_lasts_7 : decode cX9_lasts 7 = .ok (.aload 4, 2) := by decide +kernel
theorem dX9_lasts_9 : decode cX9_lasts 9 = .ok (.ifnull 22, 3) := by decide +kernel
theorem dX9_lasts_12 : decode cX9_lasts 12 = .ok (.aload 4, 2) := by decide +kernel
theorem dX9_lasts_14 : decode cX9_lasts 14 = .ok (.getfield 100, 3) := by decide +kernel
theorem dX9_lasts_17 : decode cX9_lasts 17 = .ok (.iload_n 2, 1) := by decide +kernel
theorem dX9_lasts_18 : decode cX9_lasts 18 = .ok (.invokevirtual 143, 3) := by decide +kernel
theorem dX9_lasts_21 : decode cX9_lasts 21 = .ok (.ifCond .eq 10, 3) := by decide +kernel
theorem dX9_lasts_24 : decode cX9_lasts 24 = .ok (.iload_n 3, 1) := by decide +kernel
theorem dX9_lasts_25 : decode cX9_lasts 25 = .ok (.invokestatic 128, 3) := by decide +kernel
theorem dX9_lasts_28 : decode cX9_lasts 28 = .ok (.ifCond .ne 7, 3) := by decide +kernel
theorem dX9_lasts_31 : decode cX9_lasts 31 = .ok (.ldc2_w 131, 3) := by decide +kernel
theorem dX9_lasts_34 : decode cX9_lasts 34 = .ok (.lreturn, 1) := by decide +kernel
theorem dX9_lasts_35 : decode cX9_lasts 35 = .ok (.aload 4, 2) := by decide +kernel
theorem dX9_lasts_37 : decode cX9_lasts 37 = .ok (.getfield 100, 3) := by decide +kernel
theorem dX9_lasts_40 : decode cX9_lasts 40 = .ok (.iload_n 2, 1) := by decide +kernel
theorem dX9_lasts_41 : decode cX9_lasts 41 = .ok (.invokevirtual 150, 3) := by decide +kernel
theorem dX9_lasts_44 : decode cX9_lasts 44 = .ok (.aload 4, 2) := by decide +kernel
theorem dX9_lasts_46 : decode cX9_lasts 46 = .ok (.getfield 100, 3) := by decide +kernel
theorem dX9_lasts_49 : decode cX9_lasts 49 = .ok (.iload_n 2, 1) := by decide +kernel
theorem dX9_lasts_50 : decode cX9_lasts 50 = .ok (.invokevirtual 146, 3) := by decide +kernel
theorem dX9_lasts_53 : decode cX9_lasts 53 = .ok (.lsub, 1) := by decide +kernel
theorem dX9_lasts_54 : decode cX9_lasts 54 = .ok (.ldc2_w 137, 3) := by decide +kernel
theorem dX9_lasts_57 : decode cX9_lasts 57 = .ok (.iload_n 3, 1) := by decide +kernel
theorem dX9_lasts_58 : decode cX9_lasts 58 = .ok (.invokestatic 139, 3) := by decide +kernel
theorem dX9_lasts_61 : decode cX9_lasts 61 = .ok (.lreturn, 1) := by decide +kernel
theorem dX9_swung_0 : decode cX9_swung 0 = .ok (.aload_n 0, 1) := by decide +kernel
theorem dX9_swung_1 : decode cX9_swung 1 = .ok (.iload_n 1, 1) := by decide +kernel
theorem dX9_swung_2 : decode cX9_swung 2 = .ok (.invokevirtual 76, 3) := by decide +kernel
theorem dX9_swung_5 : decode cX9_swung 5 = .ok (.astore 4, 2) := by decide +kernel
theorem dX9_swung_7 : decode cX9_swung 7 = .ok (.aload 4, 2) := by decide +kernel
theorem dX9_swung_9 : decode cX9_swung 9 = .ok (.ifnull 22, 3) := by decide +kernel
theorem dX9_swung_12 : decode cX9_swung 12 = .ok (.aload 4, 2) := by decide +kernel
theorem dX9_swung_14 : decode cX9_swung 14 = .ok (.getfield 100, 3) := by decide +kernel
theorem dX9_swung_17 : decode cX9_swung 17 = .ok (.iload_n 2, 1) := by decide +kernel
theorem dX9_swung_18 : decode cX9_swung 18 = .ok (.invokevirtual 143, 3) := by decide +kernel
theorem dX9_swung_21 : decode cX9_swung 21 = .ok (.ifCond .eq 10, 3) := by decide +kernel
theorem dX9_swung_24 : decode cX9_swung 24 = .ok (.iload_n 3, 1) := by decide +kernel
theorem dX9_swung_25 : decode cX9_swung 25 = .ok (.invokestatic 128, 3) := by decide +kernel
theorem dX9_swung_28 : decode cX9_swung 28 = .ok (.ifCond .ne 7, 3) := by decide +kernel
theorem dX9_swung_31 : decode cX9_swung 31 = .ok (.ldc2_w 131, 3) := by decide +kernel
theorem dX9_swung_34 : decode cX9_swung 34 = .ok (.lreturn, 1) := by decide +kernel
theorem dX9_swung_35 : decode cX9_swung 35 = .ok (.aload_n 0, 1) := by decide +kernel
theorem dX9_swung_36 : decode cX9_swung 36 = .ok (.aload 4, 2) := by decide +kernel
theorem dX9_swung_38 : decode cX9_swung 38 = .ok (.getfield 100, 3) := by decide +kernel
theorem dX9_swung_41 : decode cX9_swung 41 = .ok (.iload_n 2, 1) := by decide +kernel
theorem dX9_swung_42 : decode cX9_swung 42 = .ok (.invokevirtual 146, 3) := by decide +kernel
theorem dX9_swung_45 : decode cX9_swung 45 = .ok (.invokevirtual 153, 3) := by decide +kernel
theorem dX9_swung_48 : decode cX9_swung 48 = .ok (.ldc2_w 137, 3) := by decide +kernel
theorem dX9_swung_51 : decode cX9_swung 51 = .ok (.aload_n 0, 1) := by decide +kernel
theorem dX9_swung_52 : decode cX9_swung 52 = .ok (.getfield 56, 3) := by decide +kernel
theorem dX9_swung_55 : decode cX9_swung 55 = .ok (.aload_n 0, 1) := by decide +kernel
theorem dX9_swung_56 : decode cX9_swung 56 = .ok (.getfield 59, 3) := by decide +kernel
theorem dX9_swung_59 : decode cX9_swung 59 = .ok (.iadd, 1) := by decide +kernel
theorem dX9_swung_60 : decode cX9_swung 60 = .ok (.i2l, 1) := by decide +kernel
theorem dX9_swung_61 : decode cX9_swung 61 = .ok (.lmul, 1) := by decide +kernel
theorem dX9_swung_62 : decode cX9_swung 62 = .ok (.iload_n 3, 1) := by decide +kernel
theorem dX9_swung_63 : decode cX9_swung 63 = .ok (.invokestatic 139, 3) := by decide +kernel
theorem dX9_swung_66 : decode cX9_swung 66 = .ok (.lreturn, 1) := by decide +kernel
theorem dX9_event_0 : decode cX9_event 0 = .ok (.aload_n 0, 1) := by decide +kernel
theorem dX9_event_1 : decode cX9_event 1 = .ok (.iload_n 1, 1) := by decide +kernel
theorem dX9_event_2 : decode cX9_event 2 = .ok (.invokevirtual 76, 3) := by decide +kernel
theorem dX9_event_5 : decode cX9_event 5 = .ok (.astore 4, 2) := by decide +kernel
theorem dX9_event_7 : decode cX9_event 7 = .ok (.aload 4, 2) := by decide +kernel
theorem dX9_event_9 : decode cX9_event 9 = .ok (.ifnull 15, 3) := by decide +kernel
theorem dX9_event_12 : decode cX9_event 12 = .ok (.aload 4, 2) := by decide +kernel
theorem dX9_event_14 : decode cX9_event 14 = .ok (.getfield 100, 3) := by decide +kernel
theorem dX9_event_17 : decode cX9_event 17 = .ok (.iload_n 2, 1) := by decide +kernel
theorem dX9_event_18 : decode cX9_event 18 = .ok (.invokevirtual 143, 3) := by decide +kernel
theorem dX9_event_21 : decode cX9_event 21 = .ok (.ifCond .ne 5, 3) := by decide +kernel
theorem dX9_event_24 : decode cX9_event 24 = .ok (.iconst (-1), 1) := by decide +kernel
theorem dX9_event_25 : decode cX9_event 25 = .ok (.ireturn, 1) := by decide +kernel
theorem dX9_event_26 : decode cX9_event 26 = .ok (.iload_n 3, 1) := by decide +kernel
theorem dX9_event_27 : decode cX9_event 27 = .ok (.tableswitch 96 0 4 #[33, 51, 61, 71, 85], 33) := by decide +kernel
theorem dX9_event_60 : decode cX9_event 60 = .ok (.aload 4, 2) := by decide +kernel
theorem dX9_event_62 : decode cX9_event 62 = .ok (.getfield 100, 3) := by decide +kernel
theorem dX9_event_65 : decode cX9_event 65 = .ok (.iload_n 2, 1) := by decide +kernel
theorem dX9_event_66 : decode cX9_event 66 = .ok (.invokevirtual 157, 3) := by decide +kernel
theorem dX9_event_69 : decode cX9_event 69 = .ok (.ifCond .eq 7, 3) := by decide +kernel
theorem dX9_event_72 : decode cX9_event 72 = .ok (.iconst 1, 1) := by decide +kernel
theorem dX9_event_73 : decode cX9_event 73 = .ok (.goto 4, 3) := by decide +kernel
theorem dX9_event_76 : decode cX9_event 76 = .ok (.iconst 0, 1) := by decide +kernel
theorem dX9_event_77 : decode cX9_event 77 = .ok (.ireturn, 1) := by decide +kernel
theorem dX9_event_78 : decode cX9_event 78 = .ok (.aload 4, 2) := by decide +kernel
theorem dX9_event_80 : decode cX9_event 80 = .ok (.getfield 100, 3) := by decide +kernel
theorem dX9_event_83 : decode cX9_event 83 = .ok (.iload_n 2, 1) := by decide +kernel
theorem dX9_event_84 : decode cX9_event 84 = .ok (.invokevirtual 160, 3) := by decide +kernel
theorem dX9_event_87 : decode cX9_event 87 = .ok (.ireturn, 1) := by decide +kernel
theorem dX9_event_88 : decode cX9_event 88 = .ok (.aload 4, 2) := by decide +kernel
theorem dX9_event_90 : decode cX9_event 90 = .ok (.getfield 100, 3) := by decide +kernel
theorem dX9_event_93 : decode cX9_event 93 = .ok (.iload_n 2, 1) := by decide +kernel
theorem dX9_event_94 : decode cX9_event 94 = .ok (.invokevirtual 163, 3) := by decide +kernel
theorem dX9_event_97 : decode cX9_event 97 = .ok (.ireturn, 1) := by decide +kernel
theorem dX9_event_98 : decode cX9_event 98 = .ok (.aload_n 0, 1) := by decide +kernel
theorem dX9_event_99 : decode cX9_event 99 = .ok (.aload 4, 2) := by decide +kernel
theorem dX9_event_101 : decode cX9_event 101 = .ok (.getfield 100, 3) := by decide +kernel
theorem dX9_event_104 : decode cX9_event 104 = .ok (.iload_n 2, 1) := by decide +kernel
theorem dX9_event_105 : decode cX9_event 105 = .ok (.invokevirtual 146, 3) := by decide +kernel
theorem dX9_event_108 : decode cX9_event 108 = .ok (.invokevirtual 166, 3) := by decide +kernel
theorem dX9_event_111 : decode cX9_event 111 = .ok (.ireturn, 1) := by decide +kernel
theorem dX9_event_112 : decode cX9_event 112 = .ok (.aload_n 0, 1) := by decide +kernel
theorem dX9_event_113 : decode cX9_event 113 = .ok (.aload 4, 2) := by decide +kernel
theorem dX9_event_115 : decode cX9_event 115 = .ok (.getfield 100, 3) := by decide +kernel
theorem dX9_event_118 : decode cX9_event 118 = .ok (.iload_n 2, 1) := by decide +kernel
theorem dX9_event_119 : decode cX9_event 119 = .ok (.invokevirtual 170, 3) := by decide +kernel
theorem dX9_event_122 : decode cX9_event 122 = .ok (.ireturn, 1) := by decide +kernel
theorem dX9_event_123 : decode cX9_event 123 = .ok (.iconst (-1), 1) := by decide +kernel
theorem dX9_event_124 : decode cX9_event 124 = .ok (.ireturn, 1) := by decide +kernel
theorem dX9_bars_0 : decode cX9_bars 0 = .ok (.aload_n 0, 1) := by decide +kernel
theorem dX9_bars_1 : decode cX9_bars 1 = .ok (.iload_n 1, 1) := by decide +kernel
theorem dX9_bars_2 : decode cX9_bars 2 = .ok (.invokevirtual 76, 3) := by decide +kernel
theorem dX9_bars_5 : decode cX9_bars 5 = .ok (.astore_n 2, 1) := by decide +kernel
theorem dX9_bars_6 : decode cX9_bars 6 = .ok (.aload_n 2, 1) := by decide +kernel
theorem dX9_bars_7 : decode cX9_bars 7 = .ok (.ifnonnull 7, 3) := by decide +kernel
theorem dX9_bars_10 : decode cX9_bars 10 = .ok (.iconst (-1), 1) := by decide +kernel
theorem dX9_bars_11 : decode cX9_bars 11 = .ok (.goto 10, 3) := by decide +kernel
theorem dX9_bars_14 : decode cX9_bars 14 = .ok (.aload_n 2, 1) := by decide +kernel
theorem dX9_bars_15 : decode cX9_bars 15 = .ok (.getfield 100, 3) := by decide +kernel
theorem dX9_bars_18 : decode cX9_bars 18 = .ok (.invokevirtual 174, 3) := by decide +kernel
theorem dX9_bars_21 : decode cX9_bars 21 = .ok (.ireturn, 1) := by decide +kernel
theorem dX9_bar_0 : decode cX9_bar 0 = .ok (.aload_n 0, 1) := by decide +kernel
theorem dX9_bar_1 : decode cX9_bar 1 = .ok (.iload_n 1, 1) := by decide +kernel
theorem dX9_bar_2 : decode cX9_bar 2 = .ok (.invokevirtual 76, 3) := by decide +kernel
theorem dX9_bar_5 : decode cX9_bar 5 = .ok (.astore 4, 2) := by decide +kernel
theorem dX9_bar_7 : decode cX9_bar 7 = .ok (.aload 4, 2) := by decide +kernel
theorem dX9_bar_9 : decode cX9_bar 9 = .ok (.ifnull 22, 3) := by decide +kernel
theorem dX9_bar_12 : decode cX9_bar 12 = .ok (.aload 4, 2) := by decide +kernel
theorem dX9_bar_14 : decode cX9_bar 14 = .ok (.getfield 100, 3) := by decide +kernel
theorem dX9_bar_17 : decode cX9_bar 17 = .ok (.iload_n 2, 1) := by decide +kernel
theorem dX9_bar_18 : decode cX9_bar 18 = .ok (.invokevirtual 177, 3) := by decide +kernel
theorem dX9_bar_21 : decode cX9_bar 21 = .ok (.ifCond .eq 10, 3) := by decide +kernel
theorem dX9_bar_24 : decode cX9_bar 24 = .ok (.iload_n 3, 1) := by decide +kernel
theorem dX9_bar_25 : decode cX9_bar 25 = .ok (.invokestatic 128, 3) := by decide +kernel
theorem dX9_bar_28 : decode cX9_bar 28 = .ok (.ifCond .ne 7, 3) := by decide +kernel
theorem dX9_bar_31 : decode cX9_bar 31 = .ok (.ldc2_w 131, 3) := by decide +kernel
theorem dX9_bar_34 : decode cX9_bar 34 = .ok (.lreturn, 1) := by decide +kernel
theorem dX9_bar_35 : decode cX9_bar 35 = .ok (.aload 4, 2) := by decide +kernel
theorem dX9_bar_37 : decode cX9_bar 37 = .ok (.getfield 100, 3) := by decide +kernel
theorem dX9_bar_40 : decode cX9_bar 40 = .ok (.iload_n 2, 1) := by decide +kernel
theorem dX9_bar_41 : decode cX9_bar 41 = .ok (.invokevirtual 180, 3) := by decide +kernel
theorem dX9_bar_44 : decode cX9_bar 44 = .ok (.ldc2_w 137, 3) := by decide +kernel
theorem dX9_bar_47 : decode cX9_bar 47 = .ok (.iload_n 3, 1) := by decide +kernel
theorem dX9_bar_48 : decode cX9_bar 48 = .ok (.invokestatic 139, 3) := by decide +kernel
theorem dX9_bar_51 : decode cX9_bar 51 = .ok (.lreturn, 1) := by decide +kernel
theorem dX9_wrongBar_0 : decode cX9_wrongBar 0 = .ok (.aload_n 0, 1) := by decide +kernel
theorem dX9_wrongBar_1 : decode cX9_wrongBar 1 = .ok (.iload_n 1, 1) := by decide +kernel
theorem dX9_wrongBar_2 : decode cX9_wrongBar 2 = .ok (.invokevirtual 76, 3) := by decide +kernel
theorem dX9_wrongBar_5 : decode cX9_wrongBar 5 = .ok (.astore_n 2, 1) := by decide +kernel
theorem dX9_wrongBar_6 : decode cX9_wrongBar 6 = .ok (.aload_n 2, 1) := by decide +kernel
theorem dX9_wrongBar_7 : decode cX9_wrongBar 7 = .ok (.ifnonnull 5, 3) := by decide +kernel
theorem dX9_wrongBar_10 : decode cX9_wrongBar 10 = .ok (.iconst (-1), 1) := by decide +kernel
theorem dX9_wrongBar_11 : decode cX9_wrongBar 11 = .ok (.ireturn, 1) := by decide +kernel
theorem dX9_wrongBar_12 : decode cX9_wrongBar 12 = .ok (.aload_n 0, 1) := by decide +kernel
theorem dX9_wrongBar_13 : decode cX9_wrongBar 13 = .ok (.invokevirtual 183, 3) := by decide +kernel
theorem dX9_wrongBar_16 : decode cX9_wrongBar 16 = .ok (.lstore_n 3, 1) := by decide +kernel
theorem dX9_wrongBar_17 : decode cX9_wrongBar 17 = .ok (.aload_n 2, 1) := by decide +kernel
theorem dX9_wrongBar_18 : decode cX9_wrongBar 18 = .ok (.getfield 100, 3) := by decide +kernel
theorem dX9_wrongBar_21 : decode cX9_wrongBar 21 = .ok (.invokevirtual 174, 3) := by decide +kernel
theorem dX9_wrongBar_24 : decode cX9_wrongBar 24 = .ok (.istore 5, 2) := by decide +kernel
theorem dX9_wrongBar_26 : decode cX9_wrongBar 26 = .ok (.iconst 0, 1) := by decide +kernel
theorem dX9_wrongBar_27 : decode cX9_wrongBar 27 = .ok (.istore 6, 2) := by decide +kernel
theorem dX9_wrongBar_29 : decode cX9_wrongBar 29 = .ok (.iload 6, 2) := by decide +kernel
theorem dX9_wrongBar_31 : decode cX9_wrongBar 31 = .ok (.iload 5, 2) := by decide +kernel
theorem dX9_wrongBar_33 : decode cX9_wrongBar 33 = .ok (.if_icmp .ge 58, 3) := by decide +kernel
theorem dX9_wrongBar_36 : decode cX9_wrongBar 36 = .ok (.aload_n 2, 1) := by decide +kernel
theorem dX9_wrongBar_37 : decode cX9_wrongBar 37 = .ok (.getfield 100, 3) := by decide +kernel
theorem dX9_wrongBar_40 : decode cX9_wrongBar 40 = .ok (.iload 6, 2) := by decide +kernel
theorem dX9_wrongBar_42 : decode cX9_wrongBar 42 = .ok (.invokevirtual 180, 3) := by decide +kernel
theorem dX9_wrongBar_45 : decode cX9_wrongBar 45 = .ok (.lstore 7, 2) := by decide +kernel
theorem dX9_wrongBar_47 : decode cX9_wrongBar 47 = .ok (.iload 6, 2) := by decide +kernel
theorem dX9_wrongBar_49 : decode cX9_wrongBar 49 = .ok (.iload 5, 2) := by decide +kernel
theorem dX9_wrongBar_51 : decode cX9_wrongBar 51 = .ok (.iconst 1, 1) := by decide +kernel
theorem dX9_wrongBar_52 : decode cX9_wrongBar 52 = .ok (.isub, 1) := by decide +kernel
theorem dX9_wrongBar_53 : decode cX9_wrongBar 53 = .ok (.if_icmp .ne 14, 3) := by decide +kernel
theorem dX9_wrongBar_56 : decode cX9_wrongBar 56 = .ok (.lload 7, 2) := by decide +kernel
theorem dX9_wrongBar_58 : decode cX9_wrongBar 58 = .ok (.lconst 0, 1) := by decide +kernel
theorem dX9_wrongBar_59 : decode cX9_wrongBar 59 = .ok (.lcmp, 1) := by decide +kernel
theorem dX9_wrongBar_60 : decode cX9_wrongBar 60 = .ok (.ifCond .ne 7, 3) := by decide +kernel
theorem dX9_wrongBar_63 : decode cX9_wrongBar 63 = .ok (.iconst 1, 1) := by decide +kernel
theorem dX9_wrongBar_64 : decode cX9_wrongBar 64 = .ok (.goto 4, 3) := by decide +kernel
theorem dX9_wrongBar_67 : decode cX9_wrongBar 67 = .ok (.iconst 0, 1) := by decide +kernel
theorem dX9_wrongBar_68 : decode cX9_wrongBar 68 = .ok (.istore 9, 2) := by decide +kernel
theorem dX9_wrongBar_70 : decode cX9_wrongBar 70 = .ok (.lload 7, 2) := by decide +kernel
theorem dX9_wrongBar_72 : decode cX9_wrongBar 72 = .ok (.lload_n 3, 1) := by decide +kernel
theorem dX9_wrongBar_73 : decode cX9_wrongBar 73 = .ok (.lcmp, 1) := by decide +kernel
theorem dX9_wrongBar_74 : decode cX9_wrongBar 74 = .ok (.ifCond .eq 11, 3) := by decide +kernel
theorem dX9_wrongBar_77 : decode cX9_wrongBar 77 = .ok (.iload 9, 2) := by decide +kernel
theorem dX9_wrongBar_79 : decode cX9_wrongBar 79 = .ok (.ifCond .ne 6, 3) := by decide +kernel
theorem dX9_wrongBar_82 : decode cX9_wrongBar 82 = .ok (.iload 6, 2) := by decide +kernel
theorem dX9_wrongBar_84 : decode cX9_wrongBar 84 = .ok (.ireturn, 1) := by decide +kernel
theorem dX9_wrongBar_85 : decode cX9_wrongBar 85 = .ok (.iinc 6 1, 3) := by decide +kernel
theorem dX9_wrongBar_88 : decode cX9_wrongBar 88 = .ok (.goto (-59), 3) := by decide +kernel
theorem dX9_wrongBar_91 : decode cX9_wrongBar 91 = .ok (.bipush (-9), 2) := by decide +kernel
theorem dX9_wrongBar_93 : decode cX9_wrongBar 93 = .ok (.ireturn, 1) := by decide +kernel
theorem dX9_syncopation_0 : decode cX9_syncopation 0 = .ok (.aload_n 0, 1) := by decide +kernel
theorem dX9_syncopation_1 : decode cX9_syncopation 1 = .ok (.iload_n 1, 1) := by decide +kernel
theorem dX9_syncopation_2 : decode cX9_syncopation 2 = .ok (.invokevirtual 76, 3) := by decide +kernel
theorem dX9_syncopation_5 : decode cX9_syncopation 5 = .ok (.astore_n 2, 1) := by decide +kernel
theorem dX9_syncopation_6 : decode cX9_syncopation 6 = .ok (.aload_n 2, 1) := by decide +kernel
theorem dX9_syncopation_7 : decode cX9_syncopation 7 = .ok (.ifnonnull 5, 3) := by decide +kernel
theorem dX9_syncopation_10 : decode cX9_syncopation 10 = .ok (.iconst (-1), 1) := by decide +kernel
theorem dX9_syncopation_11 : decode cX9_syncopation 11 = .ok (.ireturn, 1) := by decide +kernel
theorem dX9_syncopation_12 : decode cX9_syncopation 12 = .ok (.iconst 0, 1) := by decide +kernel
theorem dX9_syncopation_13 : decode cX9_syncopation 13 = .ok (.istore_n 3, 1) := by decide +kernel
theorem dX9_syncopation_14 : decode cX9_syncopation 14 = .ok (.aload_n 2, 1) := by decide +kernel
theorem dX9_syncopation_15 : decode cX9_syncopation 15 = .ok (.getfield 100, 3) := by decide +kernel
theorem dX9_syncopation_18 : decode cX9_syncopation 18 = .ok (.invokevirtual 104, 3) := by decide +kernel
theorem dX9_syncopation_21 : decode cX9_syncopation 21 = .ok (.istore 4, 2) := by decide +kernel
theorem dX9_syncopation_23 : decode cX9_syncopation 23 = .ok (.iconst 0, 1) := by decide +kernel
theorem dX9_syncopation_24 : decode cX9_syncopation 24 = .ok (.istore 5, 2) := by decide +kernel
theorem dX9_syncopation_26 : decode cX9_syncopation 26 = .ok (.iload 5, 2) := by decide +kernel
theorem dX9_syncopation_28 : decode cX9_syncopation 28 = .ok (.iload 4, 2) := by decide +kernel
theorem dX9_syncopation_30 : decode cX9_syncopation 30 = .ok (.if_icmp .ge 22, 3) := by decide +kernel
theorem dX9_syncopation_33 : decode cX9_syncopation 33 = .ok (.iload_n 3, 1) := by decide +kernel
theorem dX9_syncopation_34 : decode cX9_syncopation 34 = .ok (.aload_n 0, 1) := by decide +kernel
theorem dX9_syncopation_35 : decode cX9_syncopation 35 = .ok (.aload_n 2, 1) := by decide +kernel
theorem dX9_syncopation_36 : decode cX9_syncopation 36 = .ok (.getfield 100, 3) := by decide +kernel
theorem dX9_syncopation_39 : decode cX9_syncopation 39 = .ok (.iload 5, 2) := by decide +kernel
theorem dX9_syncopation_41 : decode cX9_syncopation 41 = .ok (.invokevirtual 170, 3) := by decide +kernel
theorem dX9_syncopation_44 : decode cX9_syncopation 44 = .ok (.iadd, 1) := by decide +kernel
theorem dX9_syncopation_45 : decode cX9_syncopation 45 = .ok (.istore_n 3, 1) := by decide +kernel
theorem dX9_syncopation_46 : decode cX9_syncopation 46 = .ok (.iinc 5 1, 3) := by decide +kernel
theorem dX9_syncopation_49 : decode cX9_syncopation 49 = .ok (.goto (-23), 3) := by decide +kernel
theorem dX9_syncopation_52 : decode cX9_syncopation 52 = .ok (.iload_n 3, 1) := by decide +kernel
theorem dX9_syncopation_53 : decode cX9_syncopation 53 = .ok (.ireturn, 1) := by decide +kernel
theorem dX9_offGrid_0 : decode cX9_offGrid 0 = .ok (.aload_n 0, 1) := by decide +kernel
theorem dX9_offGrid_1 : decode cX9_offGrid 1 = .ok (.iload_n 1, 1) := by decide +kernel
theorem dX9_offGrid_2 : decode cX9_offGrid 2 = .ok (.invokevirtual 76, 3) := by decide +kernel
theorem dX9_offGrid_5 : decode cX9_offGrid 5 = .ok (.astore_n 3, 1) := by decide +kernel
theorem dX9_offGrid_6 : decode cX9_offGrid 6 = .ok (.aload_n 3, 1) := by decide +kernel
theorem dX9_offGrid_7 : decode cX9_offGrid 7 = .ok (.ifnull 15, 3) := by decide +kernel
theorem dX9_offGrid_10 : decode cX9_offGrid 10 = .ok (.iload_n 2, 1) := by decide +kernel
theorem dX9_offGrid_11 : decode cX9_offGrid 11 = .ok (.iconst 1, 1) := by decide +kernel
theorem dX9_offGrid_12 : decode cX9_offGrid 12 = .ok (.if_icmp .lt 10, 3) := by decide +kernel
theorem dX9_offGrid_15 : decode cX9_offGrid 15 = .ok (.iload_n 2, 1) := by decide +kernel
theorem dX9_offGrid_16 : decode cX9_offGrid 16 = .ok (.sipush 1000, 3) := by decide +kernel
theorem dX9_offGrid_19 : decode cX9_offGrid 19 = .ok (.if_icmp .le 5, 3) := by decide +kernel
theorem dX9_offGrid_22 : decode cX9_offGrid 22 = .ok (.iconst (-1), 1) := by decide +kernel
theorem dX9_offGrid_23 : decode cX9_offGrid 23 = .ok (.ireturn, 1) := by decide +kernel
theorem dX9_offGrid_24 : decode cX9_offGrid 24 = .ok (.iconst 0, 1) := by decide +kernel
theorem dX9_offGrid_25 : decode cX9_offGrid 25 = .ok (.istore 4, 2) := by decide +kernel
theorem dX9_offGrid_27 : decode cX9_offGrid 27 = .ok (.aload_n 3, 1) := by decide +kernel
theorem dX9_offGrid_28 : decode cX9_offGrid 28 = .ok (.getfield 100, 3) := by decide +kernel
theorem dX9_offGrid_31 : decode cX9_offGrid 31 = .ok (.invokevirtual 104, 3) := by decide +kernel
theorem dX9_offGrid_34 : decode cX9_offGrid 34 = .ok (.istore 5, 2) := by decide +kernel
theorem dX9_offGrid_36 : decode cX9_offGrid 36 = .ok (.iconst 0, 1) := by decide +kernel
theorem dX9_offGrid_37 : decode cX9_offGrid 37 = .ok (.istore 6, 2) := by decide +kernel
theorem dX9_offGrid_39 : decode cX9_offGrid 39 = .ok (.iload 6, 2) := by decide +kernel
theorem dX9_offGrid_41 : decode cX9_offGrid 41 = .ok (.iload 5, 2) := by decide +kernel
theorem dX9_offGrid_43 : decode cX9_offGrid 43 = .ok (.if_icmp .ge 33, 3) := by decide +kernel
theorem dX9_offGrid_46 : decode cX9_offGrid 46 = .ok (.aload_n 3, 1) := by decide +kernel
theorem dX9_offGrid_47 : decode cX9_offGrid 47 = .ok (.getfield 100, 3) := by decide +kernel
theorem dX9_offGrid_50 : decode cX9_offGrid 50 = .ok (.iload 6, 2) := by decide +kernel
theorem dX9_offGrid_52 : decode cX9_offGrid 52 = .ok (.invokevirtual 146, 3) := by decide +kernel
theorem dX9_offGrid_55 : decode cX9_offGrid 55 = .ok (.iload_n 2, 1) := by decide +kernel
theorem dX9_offGrid_56 : decode cX9_offGrid 56 = .ok (.i2l, 1) := by decide +kernel
theorem dX9_offGrid_57 : decode cX9_offGrid 57 = .ok (.lmul, 1) := by decide +kernel
theorem dX9_offGrid_58 : decode cX9_offGrid 58 = .ok (.ldc2_w 137, 3) := by decide +kernel
theorem dX9_offGrid_61 : decode cX9_offGrid 61 = .ok (.lrem, 1) := by decide +kernel
theorem dX9_offGrid_62 : decode cX9_offGrid 62 = .ok (.lconst 0, 1) := by decide +kernel
theorem dX9_offGrid_63 : decode cX9_offGrid 63 = .ok (.lcmp, 1) := by decide +kernel
theorem dX9_offGrid_64 : decode cX9_offGrid 64 = .ok (.ifCond .eq 6, 3) := by decide +kernel
theorem dX9_offGrid_67 : decode cX9_offGrid 67 = .ok (.iinc 4 1, 3) := by decide +kernel
theorem dX9_offGrid_70 : decode cX9_offGrid 70 = .ok (.iinc 6 1, 3) := by decide +kernel
theorem dX9_offGrid_73 : decode cX9_offGrid 73 = .ok (.goto (-34), 3) := by decide +kernel
theorem dX9_offGrid_76 : decode cX9_offGrid 76 = .ok (.iload 4, 2) := by decide +kernel
theorem dX9_offGrid_78 : decode cX9_offGrid 78 = .ok (.ireturn, 1) := by decide +kernel
theorem dX9_leastGrid_0 : decode cX9_leastGrid 0 = .ok (.aload_n 0, 1) := by decide +kernel
theorem dX9_leastGrid_1 : decode cX9_leastGrid 1 = .ok (.iload_n 1, 1) := by decide +kernel
theorem dX9_leastGrid_2 : decode cX9_leastGrid 2 = .ok (.invokevirtual 76, 3) := by decide +kernel
theorem dX9_leastGrid_5 : decode cX9_leastGrid 5 = .ok (.astore_n 2, 1) := by decide +kernel
theorem dX9_leastGrid_6 : decode cX9_leastGrid 6 = .ok (.aload_n 2, 1) := by decide +kernel
theorem dX9_leastGrid_7 : decode cX9_leastGrid 7 = .ok (.ifnonnull 5, 3) := by decide +kernel
theorem dX9_leastGrid_10 : decode cX9_leastGrid 10 = .ok (.iconst (-1), 1) := by decide +kernel
theorem dX9_leastGrid_11 : decode cX9_leastGrid 11 = .ok (.ireturn, 1) := by decide +kernel
theorem dX9_leastGrid_12 : decode cX9_leastGrid 12 = .ok (.ldc2_w 137, 3) := by decide +kernel
theorem dX9_leastGrid_15 : decode cX9_leastGrid 15 = .ok (.lstore_n 3, 1) := by decide +kernel
theorem dX9_leastGrid_16 : decode cX9_leastGrid 16 = .ok (.aload_n 2, 1) := by decide +kernel
theorem dX9_leastGrid_17 : decode cX9_leastGrid 17 = .ok (.getfield 100, 3) := by decide +kernel
theorem dX9_leastGrid_20 : decode cX9_leastGrid 20 = .ok (.invokevirtual 104, 3) := by decide +kernel
theorem dX9_leastGrid_23 : decode cX9_leastGrid 23 = .ok (.istore 5, 2) := by decide +kernel
theorem dX9_leastGrid_25 : decode cX9_leastGrid 25 = .ok (.iconst 0, 1) := by decide +kernel
theorem dX9_leastGrid_26 : decode cX9_leastGrid 26 = .ok (.istore 6, 2) := by decide +kernel
theorem dX9_leastGrid_28 : decode cX9_leastGrid 28 = .ok (.iload 6, 2) := by decide +kernel
theorem dX9_leastGrid_30 : decode cX9_leastGrid 30 = .ok (.iload 5, 2) := by decide +kernel
theorem dX9_leastGrid_32 : decode cX9_leastGrid 32 = .ok (.if_icmp .ge 23, 3) := by decide +kernel
theorem dX9_leastGrid_35 : decode cX9_leastGrid 35 = .ok (.lload_n 3, 1) := by decide +kernel
theorem dX9_leastGrid_36 : decode cX9_leastGrid 36 = .ok (.aload_n 2, 1) := by decide +kernel
theorem dX9_leastGrid_37 : decode cX9_leastGrid 37 = .ok (.getfield 100, 3) := by decide +kernel
theorem dX9_leastGrid_40 : decode cX9_leastGrid 40 = .ok (.iload 6, 2) := by decide +kernel
theorem dX9_leastGrid_42 : decode cX9_leastGrid 42 = .ok (.invokevirtual 146, 3) := by decide +kernel
theorem dX9_leastGrid_45 : decode cX9_leastGrid 45 = .ok (.invokestatic 186, 3) := by decide +kernel
theorem dX9_leastGrid_48 : decode cX9_leastGrid 48 = .ok (.lstore_n 3, 1) := by decide +kernel
theorem dX9_leastGrid_49 : decode cX9_leastGrid 49 = .ok (.iinc 6 1, 3) := by decide +kernel
theorem dX9_leastGrid_52 : decode cX9_leastGrid 52 = .ok (.goto (-24), 3) := by decide +kernel
theorem dX9_leastGrid_55 : decode cX9_leastGrid 55 = .ok (.lload_n 3, 1) := by decide +kernel
theorem dX9_leastGrid_56 : decode cX9_leastGrid 56 = .ok (.lconst 0, 1) := by decide +kernel
theorem dX9_leastGrid_57 : decode cX9_leastGrid 57 = .ok (.lcmp, 1) := by decide +kernel
theorem dX9_leastGrid_58 : decode cX9_leastGrid 58 = .ok (.ifCond .gt 6, 3) := by decide +kernel
theorem dX9_leastGrid_61 : decode cX9_leastGrid 61 = .ok (.bipush (-9), 2) := by decide +kernel
theorem dX9_leastGrid_63 : decode cX9_leastGrid 63 = .ok (.ireturn, 1) := by decide +kernel
theorem dX9_leastGrid_64 : decode cX9_leastGrid 64 = .ok (.ldc2_w 137, 3) := by decide +kernel
theorem dX9_leastGrid_67 : decode cX9_leastGrid 67 = .ok (.lload_n 3, 1) := by decide +kernel
theorem dX9_leastGrid_68 : decode cX9_leastGrid 68 = .ok (.ldiv, 1) := by decide +kernel
theorem dX9_leastGrid_69 : decode cX9_leastGrid 69 = .ok (.lstore 6, 2) := by decide +kernel
theorem dX9_leastGrid_71 : decode cX9_leastGrid 71 = .ok (.lload 6, 2) := by decide +kernel
theorem dX9_leastGrid_73 : decode cX9_leastGrid 73 = .ok (.ldc2_w 190, 3) := by decide +kernel
theorem dX9_leastGrid_76 : decode cX9_leastGrid 76 = .ok (.lcmp, 1) := by decide +kernel
theorem dX9_leastGrid_77 : decode cX9_leastGrid 77 = .ok (.ifCond .gt 9, 3) := by decide +kernel
theorem dX9_leastGrid_80 : decode cX9_leastGrid 80 = .ok (.lload 6, 2) := by decide +kernel
theorem dX9_leastGrid_82 : decode cX9_leastGrid 82 = .ok (.l2i, 1) := by decide +kernel
theorem dX9_leastGrid_83 : decode cX9_leastGrid 83 = .ok (.goto 5, 3) := by decide +kernel
theorem dX9_leastGrid_86 : decode cX9_leastGrid 86 = .ok (.bipush (-9), 2) := by decide +kernel
theorem dX9_leastGrid_88 : decode cX9_leastGrid 88 = .ok (.ireturn, 1) := by decide +kernel
theorem dX9_times_0 : decode cX9_times 0 = .ok (.aload_n 0, 1) := by decide +kernel
theorem dX9_times_1 : decode cX9_times 1 = .ok (.getfield 45, 3) := by decide +kernel
theorem dX9_times_4 : decode cX9_times 4 = .ok (.invokevirtual 192, 3) := by decide +kernel
theorem dX9_times_7 : decode cX9_times 7 = .ok (.iconst 0, 1) := by decide +kernel
theorem dX9_times_8 : decode cX9_times 8 = .ok (.istore_n 1, 1) := by decide +kernel
theorem dX9_times_9 : decode cX9_times 9 = .ok (.iload_n 1, 1) := by decide +kernel
theorem dX9_times_10 : decode cX9_times 10 = .ok (.sipush 1200, 3) := by decide +kernel
theorem dX9_times_13 : decode cX9_times 13 = .ok (.if_icmp .ge 23, 3) := by decide +kernel
theorem dX9_times_16 : decode cX9_times 16 = .ok (.aload_n 0, 1) := by decide +kernel
theorem dX9_times_17 : decode cX9_times 17 = .ok (.getfield 45, 3) := by decide +kernel
theorem dX9_times_20 : decode cX9_times 20 = .ok (.aload_n 0, 1) := by decide +kernel
theorem dX9_times_21 : decode cX9_times 21 = .ok (.getfield 30, 3) := by decide +kernel
theorem dX9_times_24 : decode cX9_times 24 = .ok (.invokevirtual 195, 3) := by decide +kernel
theorem dX9_times_27 : decode cX9_times 27 = .ok (.ifCond .eq 9, 3) := by decide +kernel
theorem dX9_times_30 : decode cX9_times 30 = .ok (.iinc 1 1, 3) := by decide +kernel
theorem dX9_times_33 : decode cX9_times 33 = .ok (.goto (-24), 3) := by decide +kernel
theorem dX9_times_36 : decode cX9_times 36 = .ok (.iload_n 1, 1) := by decide +kernel
theorem dX9_times_37 : decode cX9_times 37 = .ok (.ireturn, 1) := by decide +kernel
theorem dX9_time_0 : decode cX9_time 0 = .ok (.iload_n 1, 1) := by decide +kernel
theorem dX9_time_1 : decode cX9_time 1 = .ok (.ifCond .lt 19, 3) := by decide +kernel
theorem dX9_time_4 : decode cX9_time 4 = .ok (.iload_n 1, 1) := by decide +kernel
theorem dX9_time_5 : decode cX9_time 5 = .ok (.sipush 1200, 3) := by decide +kernel
theorem dX9_time_8 : decode cX9_time 8 = .ok (.if_icmp .ge 12, 3) := by decide +kernel
theorem dX9_time_11 : decode cX9_time 11 = .ok (.iload_n 2, 1) := by decide +kernel
theorem dX9_time_12 : decode cX9_time 12 = .ok (.ifCond .lt 8, 3) := by decide +kernel
theorem dX9_time_15 : decode cX9_time 15 = .ok (.iload_n 2, 1) := by decide +kernel
theorem dX9_time_16 : decode cX9_time 16 = .ok (.iconst 2, 1) := by decide +kernel
theorem dX9_time_17 : decode cX9_time 17 = .ok (.if_icmp .le 7, 3) := by decide +kernel
theorem dX9_time_20 : decode cX9_time 20 = .ok (.ldc2_w 131, 3) := by decide +kernel
theorem dX9_time_23 : decode cX9_time 23 = .ok (.lreturn, 1) := by decide +kernel
theorem dX9_time_24 : decode cX9_time 24 = .ok (.aload_n 0, 1) := by decide +kernel
theorem dX9_time_25 : decode cX9_time 25 = .ok (.getfield 45, 3) := by decide +kernel
theorem dX9_time_28 : decode cX9_time 28 = .ok (.invokevirtual 192, 3) := by decide +kernel
theorem dX9_time_31 : decode cX9_time 31 = .ok (.iconst 0, 1) := by decide +kernel
theorem dX9_time_32 : decode cX9_time 32 = .ok (.istore_n 3, 1) := by decide +kernel
theorem dX9_time_33 : decode cX9_time 33 = .ok (.iload_n 3, 1) := by decide +kernel
theorem dX9_time_34 : decode cX9_time 34 = .ok (.iload_n 1, 1) := by decide +kernel
theorem dX9_time_35 : decode cX9_time 35 = .ok (.if_icmp .gt 27, 3) := by decide +kernel
theorem dX9_time_38 : decode cX9_time 38 = .ok (.aload_n 0, 1) := by decide +kernel
theorem dX9_time_39 : decode cX9_time 39 = .ok (.getfield 45, 3) := by decide +kernel
theorem dX9_time_42 : decode cX9_time 42 = .ok (.aload_n 0, 1) := by decide +kernel
theorem dX9_time_43 : decode cX9_time 43 = .ok (.getfield 30, 3) := by decide +kernel
theorem dX9_time_46 : decode cX9_time 46 = .ok (.invokevirtual 195, 3) := by decide +kernel
theorem dX9_time_49 : decode cX9_time 49 = .ok (.ifCond .ne 7, 3) := by decide +kernel
theorem dX9_time_52 : decode cX9_time 52 = .ok (.ldc2_w 131, 3) := by decide +kernel
theorem dX9_time_55 : decode cX9_time 55 = .ok (.lreturn, 1) := by decide +kernel
theorem dX9_time_56 : decode cX9_time 56 = .ok (.iinc 3 1, 3) := by decide +kernel
theorem dX9_time_59 : decode cX9_time 59 = .ok (.goto (-26), 3) := by decide +kernel
theorem dX9_time_62 : decode cX9_time 62 = .ok (.iload_n 2, 1) := by decide +kernel
theorem dX9_time_63 : decode cX9_time 63 = .ok (.iconst 2, 1) := by decide +kernel
theorem dX9_time_64 : decode cX9_time 64 = .ok (.if_icmp .ne 14, 3) := by decide +kernel
theorem dX9_time_67 : decode cX9_time 67 = .ok (.aload_n 0, 1) := by decide +kernel
theorem dX9_time_68 : decode cX9_time 68 = .ok (.getfield 45, 3) := by decide +kernel
theorem dX9_time_71 : decode cX9_time 71 = .ok (.invokevirtual 199, 3) := by decide +kernel
theorem dX9_time_74 : decode cX9_time 74 = .ok (.i2l, 1) := by decide +kernel
theorem dX9_time_75 : decode cX9_time 75 = .ok (.goto 17, 3) := by decide +kernel
theorem dX9_time_78 : decode cX9_time 78 = .ok (.aload_n 0, 1) := by decide +kernel
theorem dX9_time_79 : decode cX9_time 79 = .ok (.getfield 45, 3) := by decide +kernel
theorem dX9_time_82 : decode cX9_time 82 = .ok (.invokevirtual 202, 3) := by decide +kernel
theorem dX9_time_85 : decode cX9_time 85 = .ok (.ldc2_w 137, 3) := by decide +kernel
theorem dX9_time_88 : decode cX9_time 88 = .ok (.iload_n 2, 1) := by decide +kernel
theorem dX9_time_89 : decode cX9_time 89 = .ok (.invokestatic 139, 3) := by decide +kernel
theorem dX9_time_92 : decode cX9_time 92 = .ok (.lreturn, 1) := by decide +kernel
theorem dX9_cycle_0 : decode cX9_cycle 0 = .ok (.aload_n 0, 1) := by decide +kernel
theorem dX9_cycle_1 : decode cX9_cycle 1 = .ok (.iload_n 1, 1) := by decide +kernel
theorem dX9_cycle_2 : decode cX9_cycle 2 = .ok (.invokevirtual 76, 3) := by decide +kernel
theorem dX9_cycle_5 : decode cX9_cycle 5 = .ok (.astore 4, 2) := by decide +kernel
theorem dX9_cycle_7 : decode cX9_cycle 7 = .ok (.aload_n 0, 1) := by decide +kernel
theorem dX9_cycle_8 : decode cX9_cycle 8 = .ok (.iload_n 2, 1) := by decide +kernel
theorem dX9_cycle_9 : decode cX9_cycle 9 = .ok (.invokevirtual 76, 3) := by decide +kernel
theorem dX9_cycle_12 : decode cX9_cycle 12 = .ok (.astore 5, 2) := by decide +kernel
theorem dX9_cycle_14 : decode cX9_cycle 14 = .ok (.aload 4, 2) := by decide +kernel
theorem dX9_cycle_16 : decode cX9_cycle 16 = .ok (.ifnull 15, 3) := by decide +kernel
theorem dX9_cycle_19 : decode cX9_cycle 19 = .ok (.aload 5, 2) := by decide +kernel
theorem dX9_cycle_21 : decode cX9_cycle 21 = .ok (.ifnull 10, 3) := by decide +kernel
theorem dX9_cycle_24 : decode cX9_cycle 24 = .ok (.iload_n 3, 1) := by decide +kernel
theorem dX9_cycle_25 : decode cX9_cycle 25 = .ok (.invokestatic 128, 3) := by decide +kernel
theorem dX9_cycle_28 : decode cX9_cycle 28 = .ok (.ifCond .ne 7, 3) := by decide +kernel
theorem dX9_cycle_31 : decode cX9_cycle 31 = .ok (.ldc2_w 131, 3) := by decide +kernel
theorem dX9_cycle_34 : decode cX9_cycle 34 = .ok (.lreturn, 1) := by decide +kernel
theorem dX9_cycle_35 : decode cX9_cycle 35 = .ok (.aload 4, 2) := by decide +kernel
theorem dX9_cycle_37 : decode cX9_cycle 37 = .ok (.getfield 100, 3) := by decide +kernel
theorem dX9_cycle_40 : decode cX9_cycle 40 = .ok (.invokevirtual 133, 3) := by decide +kernel
theorem dX9_cycle_43 : decode cX9_cycle 43 = .ok (.aload 5, 2) := by decide +kernel
theorem dX9_cycle_45 : decode cX9_cycle 45 = .ok (.getfield 100, 3) := by decide +kernel
theorem dX9_cycle_48 : decode cX9_cycle 48 = .ok (.invokevirtual 133, 3) := by decide +kernel
theorem dX9_cycle_51 : decode cX9_cycle 51 = .ok (.invokestatic 205, 3) := by decide +kernel
theorem dX9_cycle_54 : decode cX9_cycle 54 = .ok (.lstore 6, 2) := by decide +kernel
theorem dX9_cycle_56 : decode cX9_cycle 56 = .ok (.lload 6, 2) := by decide +kernel
theorem dX9_cycle_58 : decode cX9_cycle 58 = .ok (.lconst 0, 1) := by decide +kernel
theorem dX9_cycle_59 : decode cX9_cycle 59 = .ok (.lcmp, 1) := by decide +kernel
theorem dX9_cycle_60 : decode cX9_cycle 60 = .ok (.ifCond .ge 8, 3) := by decide +kernel
theorem dX9_cycle_63 : decode cX9_cycle 63 = .ok (.lload 6, 2) := by decide +kernel
theorem dX9_cycle_65 : decode cX9_cycle 65 = .ok (.goto 12, 3) := by decide +kernel
theorem dX9_cycle_68 : decode cX9_cycle 68 = .ok (.lload 6, 2) := by decide +kernel
theorem dX9_cycle_70 : decode cX9_cycle 70 = .ok (.ldc2_w 137, 3) := by decide +kernel
theorem dX9_cycle_73 : decode cX9_cycle 73 = .ok (.iload_n 3, 1) := by decide +kernel
theorem dX9_cycle_74 : decode cX9_cycle 74 = .ok (.invokestatic 139, 3) := by decide +kernel
theorem dX9_cycle_77 : decode cX9_cycle 77 = .ok (.lreturn, 1) := by decide +kernel
theorem dX9_meets_0 : decode cX9_meets 0 = .ok (.aload_n 0, 1) := by decide +kernel
theorem dX9_meets_1 : decode cX9_meets 1 = .ok (.iload_n 1, 1) := by decide +kernel
theorem dX9_meets_2 : decode cX9_meets 2 = .ok (.invokevirtual 76, 3) := by decide +kernel
theorem dX9_meets_5 : decode cX9_meets 5 = .ok (.astore_n 3, 1) := by decide +kernel
theorem dX9_meets_6 : decode cX9_meets 6 = .ok (.aload_n 0, 1) := by decide +kernel
theorem dX9_meets_7 : decode cX9_meets 7 = .ok (.iload_n 2, 1) := by decide +kernel
theorem dX9_meets_8 : decode cX9_meets 8 = .ok (.invokevirtual 76, 3) := by decide +kernel
theorem dX9_meets_11 : decode cX9_meets 11 = .ok (.astore 4, 2) := by decide +kernel
theorem dX9_meets_13 : decode cX9_meets 13 = .ok (.aload_n 3, 1) := by decide +kernel
theorem dX9_meets_14 : decode cX9_meets 14 = .ok (.ifnull 8, 3) := by decide +kernel
theorem dX9_meets_17 : decode cX9_meets 17 = .ok (.aload 4, 2) := by decide +kernel
theorem dX9_meets_19 : decode cX9_meets 19 = .ok (.ifnonnull 5, 3) := by decide +kernel
theorem dX9_meets_22 : decode cX9_meets 22 = .ok (.iconst (-1), 1) := by decide +kernel
theorem dX9_meets_23 : decode cX9_meets 23 = .ok (.ireturn, 1) := by decide +kernel
theorem dX9_meets_24 : decode cX9_meets 24 = .ok (.aload_n 3, 1) := by decide +kernel
theorem dX9_meets_25 : decode cX9_meets 25 = .ok (.getfield 100, 3) := by decide +kernel
theorem dX9_meets_28 : decode cX9_meets 28 = .ok (.invokevirtual 133, 3) := by decide +kernel
theorem dX9_meets_31 : decode cX9_meets 31 = .ok (.aload 4, 2) := by decide +kernel
theorem dX9_meets_33 : decode cX9_meets 33 = .ok (.getfield 100, 3) := by decide +kernel
theorem dX9_meets_36 : decode cX9_meets 36 = .ok (.invokevirtual 133, 3) := by decide +kernel
theorem dX9_meets_39 : decode cX9_meets 39 = .ok (.invokestatic 205, 3) := by decide +kernel
theorem dX9_meets_42 : decode cX9_meets 42 = .ok (.lstore 5, 2) := by decide +kernel
theorem dX9_meets_44 : decode cX9_meets 44 = .ok (.lload 5, 2) := by decide +kernel
theorem dX9_meets_46 : decode cX9_meets 46 = .ok (.lconst 0, 1) := by decide +kernel
theorem dX9_meets_47 : decode cX9_meets 47 = .ok (.lcmp, 1) := by decide +kernel
theorem dX9_meets_48 : decode cX9_meets 48 = .ok (.ifCond .ge 7, 3) := by decide +kernel
theorem dX9_meets_51 : decode cX9_meets 51 = .ok (.lload 5, 2) := by decide +kernel
theorem dX9_meets_53 : decode cX9_meets 53 = .ok (.l2i, 1) := by decide +kernel
theorem dX9_meets_54 : decode cX9_meets 54 = .ok (.ireturn, 1) := by decide +kernel
theorem dX9_meets_55 : decode cX9_meets 55 = .ok (.aload_n 3, 1) := by decide +kernel
theorem dX9_meets_56 : decode cX9_meets 56 = .ok (.getfield 100, 3) := by decide +kernel
theorem dX9_meets_59 : decode cX9_meets 59 = .ok (.aload 4, 2) := by decide +kernel
theorem dX9_meets_61 : decode cX9_meets 61 = .ok (.getfield 100, 3) := by decide +kernel
theorem dX9_meets_64 : decode cX9_meets 64 = .ok (.invokestatic 208, 3) := by decide +kernel
theorem dX9_meets_67 : decode cX9_meets 67 = .ok (.ireturn, 1) := by decide +kernel
theorem dX9_undo_0 : decode cX9_undo 0 = .ok (.aload_n 0, 1) := by decide +kernel
theorem dX9_undo_1 : decode cX9_undo 1 = .ok (.getfield 212, 3) := by decide +kernel
theorem dX9_undo_4 : decode cX9_undo 4 = .ok (.iconst 1, 1) := by decide +kernel
theorem dX9_undo_5 : decode cX9_undo 5 = .ok (.if_icmp .lt 11, 3) := by decide +kernel
theorem dX9_undo_8 : decode cX9_undo 8 = .ok (.aload_n 0, 1) := by decide +kernel
theorem dX9_undo_9 : decode cX9_undo 9 = .ok (.getfield 212, 3) := by decide +kernel
theorem dX9_undo_12 : decode cX9_undo 12 = .ok (.iconst 5, 1) := by decide +kernel
theorem dX9_undo_13 : decode cX9_undo 13 = .ok (.if_icmp .le 6, 3) := by decide +kernel
theorem dX9_undo_16 : decode cX9_undo 16 = .ok (.bipush (-9), 2) := by decide +kernel
theorem dX9_undo_18 : decode cX9_undo 18 = .ok (.ireturn, 1) := by decide +kernel
theorem dX9_undo_19 : decode cX9_undo 19 = .ok (.aload_n 0, 1) := by decide +kernel
theorem dX9_undo_20 : decode cX9_undo 20 = .ok (.dup, 1) := by decide +kernel
theorem dX9_undo_21 : decode cX9_undo 21 = .ok (.getfield 212, 3) := by decide +kernel
theorem dX9_undo_24 : decode cX9_undo 24 = .ok (.iconst 1, 1) := by decide +kernel
theorem dX9_undo_25 : decode cX9_undo 25 = .ok (.isub, 1) := by decide +kernel
theorem dX9_undo_26 : decode cX9_undo 26 = .ok (.putfield 212, 3) := by decide +kernel
theorem dX9_undo_29 : decode cX9_undo 29 = .ok (.aload_n 0, 1) := by decide +kernel
theorem dX9_undo_30 : decode cX9_undo 30 = .ok (.getfield 37, 3) := by decide +kernel
theorem dX9_undo_33 : decode cX9_undo 33 = .ok (.aload_n 0, 1) := by decide +kernel
theorem dX9_undo_34 : decode cX9_undo 34 = .ok (.getfield 212, 3) := by decide +kernel
theorem dX9_undo_37 : decode cX9_undo 37 = .ok (.aaload, 1) := by decide +kernel
theorem dX9_undo_38 : decode cX9_undo 38 = .ok (.astore_n 1, 1) := by decide +kernel
theorem dX9_undo_39 : decode cX9_undo 39 = .ok (.iconst 0, 1) := by decide +kernel
theorem dX9_undo_40 : decode cX9_undo 40 = .ok (.istore_n 2, 1) := by decide +kernel
theorem dX9_undo_41 : decode cX9_undo 41 = .ok (.iload_n 2, 1) := by decide +kernel
theorem dX9_undo_42 : decode cX9_undo 42 = .ok (.iconst 4, 1) := by decide +kernel
theorem dX9_undo_43 : decode cX9_undo 43 = .ok (.if_icmp .ge 24, 3) := by decide +kernel
theorem dX9_undo_46 : decode cX9_undo 46 = .ok (.aload_n 0, 1) := by decide +kernel
theorem dX9_undo_47 : decode cX9_undo 47 = .ok (.getfield 30, 3) := by decide +kernel
theorem dX9_undo_50 : decode cX9_undo 50 = .ok (.iload_n 2, 1) := by decide +kernel
theorem dX9_undo_51 : decode cX9_undo 51 = .ok (.aaload, 1) := by decide +kernel
theorem dX9_undo_52 : decode cX9_undo 52 = .ok (.aload_n 1, 1) := by decide +kernel
theorem dX9_undo_53 : decode cX9_undo 53 = .ok (.getfield 215, 3) := by decide +kernel
theorem dX9_undo_56 : decode cX9_undo 56 = .ok (.iload_n 2, 1) := by decide +kernel
theorem dX9_undo_57 : decode cX9_undo 57 = .ok (.aaload, 1) := by decide +kernel
theorem dX9_undo_58 : decode cX9_undo 58 = .ok (.invokevirtual 96, 3) := by decide +kernel
theorem dX9_undo_61 : decode cX9_undo 61 = .ok (.iinc 2 1, 3) := by decide +kernel
theorem dX9_undo_64 : decode cX9_undo 64 = .ok (.goto (-23), 3) := by decide +kernel
theorem dX9_undo_67 : decode cX9_undo 67 = .ok (.aload_n 0, 1) := by decide +kernel
theorem dX9_undo_68 : decode cX9_undo 68 = .ok (.aload_n 1, 1) := by decide +kernel
theorem dX9_undo_69 : decode cX9_undo 69 = .ok (.getfield 219, 3) := by decide +kernel
theorem dX9_undo_72 : decode cX9_undo 72 = .ok (.putfield 49, 3) := by decide +kernel
theorem dX9_undo_75 : decode cX9_undo 75 = .ok (.aload_n 0, 1) := by decide +kernel
theorem dX9_undo_76 : decode cX9_undo 76 = .ok (.aload_n 1, 1) := by decide +kernel
theorem dX9_undo_77 : decode cX9_undo 77 = .ok (.getfield 220, 3) := by decide +kernel
theorem dX9_undo_80 : decode cX9_undo 80 = .ok (.putfield 53, 3) := by decide +kernel
theorem dX9_undo_83 : decode cX9_undo 83 = .ok (.aload_n 0, 1) := by decide +kernel
theorem dX9_undo_84 : decode cX9_undo 84 = .ok (.aload_n 1, 1) := by decide +kernel
theorem dX9_undo_85 : decode cX9_undo 85 = .ok (.getfield 221, 3) := by decide +kernel
theorem dX9_undo_88 : decode cX9_undo 88 = .ok (.putfield 56, 3) := by decide +kernel
theorem dX9_undo_91 : decode cX9_undo 91 = .ok (.aload_n 0, 1) := by decide +kernel
theorem dX9_undo_92 : decode cX9_undo 92 = .ok (.aload_n 1, 1) := by decide +kernel
theorem dX9_undo_93 : decode cX9_undo 93 = .ok (.getfield 222, 3) := by decide +kernel
theorem dX9_undo_96 : decode cX9_undo 96 = .ok (.putfield 59, 3) := by decide +kernel
theorem dX9_undo_99 : decode cX9_undo 99 = .ok (.aload_n 0, 1) := by decide +kernel
theorem dX9_undo_100 : decode cX9_undo 100 = .ok (.getfield 212, 3) := by decide +kernel
theorem dX9_undo_103 : decode cX9_undo 103 = .ok (.ireturn, 1) := by decide +kernel
theorem dX9_fingerprint_0 : decode cX9_fingerprint 0 = .ok (.ldc2_w 223, 3) := by decide +kernel
theorem dX9_fingerprint_3 : decode cX9_fingerprint 3 = .ok (.lstore_n 1, 1) := by decide +kernel
theorem dX9_fingerprint_4 : decode cX9_fingerprint 4 = .ok (.iconst 0, 1) := by decide +kernel
theorem dX9_fingerprint_5 : decode cX9_fingerprint 5 = .ok (.istore_n 3, 1) := by decide +kernel
theorem dX9_fingerprint_6 : decode cX9_fingerprint 6 = .ok (.iload_n 3, 1) := by decide +kernel
theorem dX9_fingerprint_7 : decode cX9_fingerprint 7 = .ok (.iconst 4, 1) := by decide +kernel
theorem dX9_fingerprint_8 : decode cX9_fingerprint 8 = .ok (.if_icmp .ge 67, 3) := by decide +kernel
theorem dX9_fingerprint_11 : decode cX9_fingerprint 11 = .ok (.aload_n 0, 1) := by decide +kernel
theorem dX9_fingerprint_12 : decode cX9_fingerprint 12 = .ok (.getfield 30, 3) := by decide +kernel
theorem dX9_fingerprint_15 : decode cX9_fingerprint 15 = .ok (.iload_n 3, 1) := by decide +kernel
theorem dX9_fingerprint_16 : decode cX9_fingerprint 16 = .ok (.aaload, 1) := by decide +kernel
theorem dX9_fingerprint_17 : decode cX9_fingerprint 17 = .ok (.getfield 109, 3) := by decide +kernel
theorem dX9_fingerprint_20 : decode cX9_fingerprint 20 = .ok (.astore 4, 2) := by decide +kernel
theorem dX9_fingerprint_22 : decode cX9_fingerprint 22 = .ok (.ldc2_w 225, 3) := by decide +kernel
theorem dX9_fingerprint_25 : decode cX9_fingerprint 25 = .ok (.lload_n 1, 1) := by decide +kernel
theorem dX9_fingerprint_26 : decode cX9_fingerprint 26 = .ok (.lmul, 1) := by decide +kernel
theorem dX9_fingerprint_27 : decode cX9_fingerprint 27 = .ok (.aload 4, 2) := by decide +kernel
theorem dX9_fingerprint_29 : decode cX9_fingerprint 29 = .ok (.invokevirtual 69, 3) := by decide +kernel
theorem dX9_fingerprint_32 : decode cX9_fingerprint 32 = .ok (.i2l, 1) := by decide +kernel
theorem dX9_fingerprint_33 : decode cX9_fingerprint 33 = .ok (.ladd, 1) := by decide +kernel
theorem dX9_fingerprint_34 : decode cX9_fingerprint 34 = .ok (.lstore_n 1, 1) := by decide +kernel
theorem dX9_fingerprint_35 : decode cX9_fingerprint 35 = .ok (.iconst 0, 1) := by decide +kernel
theorem dX9_fingerprint_36 : decode cX9_fingerprint 36 = .ok (.istore 5, 2) := by decide +kernel
theorem dX9_fingerprint_38 : decode cX9_fingerprint 38 = .ok (.iload 5, 2) := by decide +kernel
theorem dX9_fingerprint_40 : decode cX9_fingerprint 40 = .ok (.aload 4, 2) := by decide +kernel
theorem dX9_fingerprint_42 : decode cX9_fingerprint 42 = .ok (.invokevirtual 69, 3) := by decide +kernel
theorem dX9_fingerprint_45 : decode cX9_fingerprint 45 = .ok (.if_icmp .ge 24, 3) := by decide +kernel
theorem dX9_fingerprint_48 : decode cX9_fingerprint 48 = .ok (.ldc2_w 225, 3) := by decide +kernel
theorem dX9_fingerprint_51 : decode cX9_fingerprint 51 = .ok (.lload_n 1, 1) := by decide +kernel
theorem dX9_fingerprint_52 : decode cX9_fingerprint 52 = .ok (.lmul, 1) := by decide +kernel
theorem dX9_fingerprint_53 : decode cX9_fingerprint 53 = .ok (.aload 4, 2) := by decide +kernel
theorem dX9_fingerprint_55 : decode cX9_fingerprint 55 = .ok (.iload 5, 2) := by decide +kernel
theorem dX9_fingerprint_57 : decode cX9_fingerprint 57 = .ok (.invokevirtual 118, 3) := by decide +kernel
theorem dX9_fingerprint_60 : decode cX9_fingerprint 60 = .ok (.i2l, 1) := by decide +kernel
theorem dX9_fingerprint_61 : decode cX9_fingerprint 61 = .ok (.ladd, 1) := by decide +kernel
theorem dX9_fingerprint_62 : decode cX9_fingerprint 62 = .ok (.lstore_n 1, 1) := by decide +kernel
theorem dX9_fingerprint_63 : decode cX9_fingerprint 63 = .ok (.iinc 5 1, 3) := by decide +kernel
theorem dX9_fingerprint_66 : decode cX9_fingerprint 66 = .ok (.goto (-28), 3) := by decide +kernel
theorem dX9_fingerprint_69 : decode cX9_fingerprint 69 = .ok (.iinc 3 1, 3) := by decide +kernel
theorem dX9_fingerprint_72 : decode cX9_fingerprint 72 = .ok (.goto (-66), 3) := by decide +kernel
theorem dX9_fingerprint_75 : decode cX9_fingerprint 75 = .ok (.ldc2_w 225, 3) := by decide +kernel
theorem dX9_fingerprint_78 : decode cX9_fingerprint 78 = .ok (.lload_n 1, 1) := by decide +kernel
theorem dX9_fingerprint_79 : decode cX9_fingerprint 79 = .ok (.lmul, 1) := by decide +kernel
theorem dX9_fingerprint_80 : decode cX9_fingerprint 80 = .ok (.aload_n 0, 1) := by decide +kernel
theorem dX9_fingerprint_81 : decode cX9_fingerprint 81 = .ok (.getfield 49, 3) := by decide +kernel
theorem dX9_fingerprint_84 : decode cX9_fingerprint 84 = .ok (.i2l, 1) := by decide +kernel
theorem dX9_fingerprint_85 : decode cX9_fingerprint 85 = .ok (.ladd, 1) := by decide +kernel
theorem dX9_fingerprint_86 : decode cX9_fingerprint 86 = .ok (.lstore_n 1, 1) := by decide +kernel
theorem dX9_fingerprint_87 : decode cX9_fingerprint 87 = .ok (.ldc2_w 225, 3) := by decide +kernel
theorem dX9_fingerprint_90 : decode cX9_fingerprint 90 = .ok (.lload_n 1, 1) := by decide +kernel
theorem dX9_fingerprint_91 : decode cX9_fingerprint 91 = .ok (.lmul, 1) := by decide +kernel
theorem dX9_fingerprint_92 : decode cX9_fingerprint 92 = .ok (.aload_n 0, 1) := by decide +kernel
theorem dX9_fingerprint_93 : decode cX9_fingerprint 93 = .ok (.getfield 53, 3) := by decide +kernel
theorem dX9_fingerprint_96 : decode cX9_fingerprint 96 = .ok (.i2l, 1) := by decide +kernel
theorem dX9_fingerprint_97 : decode cX9_fingerprint 97 = .ok (.ladd, 1) := by decide +kernel
theorem dX9_fingerprint_98 : decode cX9_fingerprint 98 = .ok (.lstore_n 1, 1) := by decide +kernel
theorem dX9_fingerprint_99 : decode cX9_fingerprint 99 = .ok (.ldc2_w 225, 3) := by decide +kernel
theorem dX9_fingerprint_102 : decode cX9_fingerprint 102 = .ok (.lload_n 1, 1) := by decide +kernel
theorem dX9_fingerprint_103 : decode cX9_fingerprint 103 = .ok (.lmul, 1) := by decide +kernel
theorem dX9_fingerprint_104 : decode cX9_fingerprint 104 = .ok (.aload_n 0, 1) := by decide +kernel
theorem dX9_fingerprint_105 : decode cX9_fingerprint 105 = .ok (.getfield 56, 3) := by decide +kernel
theorem dX9_fingerprint_108 : decode cX9_fingerprint 108 = .ok (.i2l, 1) := by decide +kernel
theorem dX9_fingerprint_109 : decode cX9_fingerprint 109 = .ok (.ladd, 1) := by decide +kernel
theorem dX9_fingerprint_110 : decode cX9_fingerprint 110 = .ok (.lstore_n 1, 1) := by decide +kernel
theorem dX9_fingerprint_111 : decode cX9_fingerprint 111 = .ok (.ldc2_w 225, 3) := by decide +kernel
theorem dX9_fingerprint_114 : decode cX9_fingerprint 114 = .ok (.lload_n 1, 1) := by decide +kernel
theorem dX9_fingerprint_115 : decode cX9_fingerprint 115 = .ok (.lmul, 1) := by decide +kernel
theorem dX9_fingerprint_116 : decode cX9_fingerprint 116 = .ok (.aload_n 0, 1) := by decide +kernel
theorem dX9_fingerprint_117 : decode cX9_fingerprint 117 = .ok (.getfield 59, 3) := by decide +kernel
theorem dX9_fingerprint_120 : decode cX9_fingerprint 120 = .ok (.i2l, 1) := by decide +kernel
theorem dX9_fingerprint_121 : decode cX9_fingerprint 121 = .ok (.ladd, 1) := by decide +kernel
theorem dX9_fingerprint_122 : decode cX9_fingerprint 122 = .ok (.lreturn, 1) := by decide +kernel
theorem dX9_partAt_0 : decode cX9_partAt 0 = .ok (.iload_n 1, 1) := by decide +kernel
theorem dX9_partAt_1 : decode cX9_partAt 1 = .ok (.ifCond .lt 17, 3) := by decide +kernel
theorem dX9_partAt_4 : decode cX9_partAt 4 = .ok (.iload_n 1, 1) := by decide +kernel
theorem dX9_partAt_5 : decode cX9_partAt 5 = .ok (.iconst 4, 1) := by decide +kernel
theorem dX9_partAt_6 : decode cX9_partAt 6 = .ok (.if_icmp .ge 12, 3) := by decide +kernel
theorem dX9_partAt_9 : decode cX9_partAt 9 = .ok (.aload_n 0, 1) := by decide +kernel
theorem dX9_partAt_10 : decode cX9_partAt 10 = .ok (.getfield 30, 3) := by decide +kernel
theorem dX9_partAt_13 : decode cX9_partAt 13 = .ok (.iload_n 1, 1) := by decide +kernel
theorem dX9_partAt_14 : decode cX9_partAt 14 = .ok (.aaload, 1) := by decide +kernel
theorem dX9_partAt_15 : decode cX9_partAt 15 = .ok (.goto 4, 3) := by decide +kernel
theorem dX9_partAt_18 : decode cX9_partAt 18 = .ok (.aconst_null, 1) := by decide +kernel
theorem dX9_partAt_19 : decode cX9_partAt 19 = .ok (.areturn, 1) := by decide +kernel
theorem dX9_remember_0 : decode cX9_remember 0 = .ok (.aload_n 0, 1) := by decide +kernel
theorem dX9_remember_1 : decode cX9_remember 1 = .ok (.getfield 212, 3) := by decide +kernel
theorem dX9_remember_4 : decode cX9_remember 4 = .ok (.iconst 5, 1) := by decide +kernel
theorem dX9_remember_5 : decode cX9_remember 5 = .ok (.if_icmp .lt 7, 3) := by decide +kernel
theorem dX9_remember_8 : decode cX9_remember 8 = .ok (.aload_n 0, 1) := by decide +kernel
theorem dX9_remember_9 : decode cX9_remember 9 = .ok (.invokevirtual 227, 3) := by decide +kernel
theorem dX9_remember_12 : decode cX9_remember 12 = .ok (.aload_n 0, 1) := by decide +kernel
theorem dX9_remember_13 : decode cX9_remember 13 = .ok (.getfield 37, 3) := by decide +kernel
theorem dX9_remember_16 : decode cX9_remember 16 = .ok (.aload_n 0, 1) := by decide +kernel
theorem dX9_remember_17 : decode cX9_remember 17 = .ok (.getfield 212, 3) := by decide +kernel
theorem dX9_remember_20 : decode cX9_remember 20 = .ok (.aaload, 1) := by decide +kernel
theorem dX9_remember_21 : decode cX9_remember 21 = .ok (.astore_n 1, 1) := by decide +kernel
theorem dX9_remember_22 : decode cX9_remember 22 = .ok (.iconst 0, 1) := by decide +kernel
theorem dX9_remember_23 : decode cX9_remember 23 = .ok (.istore_n 2, 1) := by decide +kernel
theorem dX9_remember_24 : decode cX9_remember 24 = .ok (.iload_n 2, 1) := by decide +kernel
theorem dX9_remember_25 : decode cX9_remember 25 = .ok (.iconst 4, 1) := by decide +kernel
theorem dX9_remember_26 : decode cX9_remember 26 = .ok (.if_icmp .ge 27, 3) := by decide +kernel
theorem dX9_remember_29 : decode cX9_remember 29 = .ok (.aload_n 1, 1) := by decide +kernel
theorem dX9_remember_30 : decode cX9_remember 30 = .ok (.getfield 215, 3) := by decide +kernel
theorem dX9_remember_33 : decode cX9_remember 33 = .ok (.iload_n 2, 1) := by decide +kernel
theorem dX9_remember_34 : decode cX9_remember 34 = .ok (.aaload, 1) := by decide +kernel
theorem dX9_remember_35 : decode cX9_remember 35 = .ok (.aload_n 0, 1) := by decide +kernel
theorem dX9_remember_36 : decode cX9_remember 36 = .ok (.getfield 30, 3) := by decide +kernel
theorem dX9_remember_39 : decode cX9_remember 39 = .ok (.iload_n 2, 1) := by decide +kernel
theorem dX9_remember_40 : decode cX9_remember 40 = .ok (.aaload, 1) := by decide +kernel
theorem dX9_remember_41 : decode cX9_remember 41 = .ok (.getfield 109, 3) := by decide +kernel
theorem dX9_remember_44 : decode cX9_remember 44 = .ok (.invokevirtual 230, 3) := by decide +kernel
theorem dX9_remember_47 : decode cX9_remember 47 = .ok (.iinc 2 1, 3) := by decide +kernel
theorem dX9_remember_50 : decode cX9_remember 50 = .ok (.goto (-26), 3) := by decide +kernel
theorem dX9_remember_53 : decode cX9_remember 53 = .ok (.aload_n 1, 1) := by decide +kernel
theorem dX9_remember_54 : decode cX9_remember 54 = .ok (.aload_n 0, 1) := by decide +kernel
theorem dX9_remember_55 : decode cX9_remember 55 = .ok (.getfield 49, 3) := by decide +kernel
theorem dX9_remember_58 : decode cX9_remember 58 = .ok (.putfield 219, 3) := by decide +kernel
theorem dX9_remember_61 : decode cX9_remember 61 = .ok (.aload_n 1, 1) := by decide +kernel
theorem dX9_remember_62 : decode cX9_remember 62 = .ok (.aload_n 0, 1) := by decide +kernel
theorem dX9_remember_63 : decode cX9_remember 63 = .ok (.getfield 53, 3) := by decide +kernel
theorem dX9_remember_66 : decode cX9_remember 66 = .ok (.putfield 220, 3) := by decide +kernel
theorem dX9_remember_69 : decode cX9_remember 69 = .ok (.aload_n 1, 1) := by decide +kernel
theorem dX9_remember_70 : decode cX9_remember 70 = .ok (.aload_n 0, 1) := by decide +kernel
theorem dX9_remember_71 : decode cX9_remember 71 = .ok (.getfield 56, 3) := by decide +kernel
theorem dX9_remember_74 : decode cX9_remember 74 = .ok (.putfield 221, 3) := by decide +kernel
theorem dX9_remember_77 : decode cX9_remember 77 = .ok (.aload_n 1, 1) := by decide +kernel
theorem dX9_remember_78 : decode cX9_remember 78 = .ok (.aload_n 0, 1) := by decide +kernel
theorem dX9_remember_79 : decode cX9_remember 79 = .ok (.getfield 59, 3) := by decide +kernel
theorem dX9_remember_82 : decode cX9_remember 82 = .ok (.putfield 222, 3) := by decide +kernel
theorem dX9_remember_85 : decode cX9_remember 85 = .ok (.aload_n 0, 1) := by decide +kernel
theorem dX9_remember_86 : decode cX9_remember 86 = .ok (.dup, 1) := by decide +kernel
theorem dX9_remember_87 : decode cX9_remember 87 = .ok (.getfield 212, 3) := by decide +kernel
theorem dX9_remember_90 : decode cX9_remember 90 = .ok (.iconst 1, 1) := by decide +kernel
theorem dX9_remember_91 : decode cX9_remember 91 = .ok (.iadd, 1) := by decide +kernel
theorem dX9_remember_92 : decode cX9_remember 92 = .ok (.putfield 212, 3) := by decide +kernel
theorem dX9_remember_95 : decode cX9_remember 95 = .ok (.return_, 1) := by decide +kernel
theorem dX9_dropOldest_0 : decode cX9_dropOldest 0 = .ok (.aload_n 0, 1) := by decide +kernel
theorem dX9_dropOldest_1 : decode cX9_dropOldest 1 = .ok (.getfield 37, 3) := by decide +kernel
theorem dX9_dropOldest_4 : decode cX9_dropOldest 4 = .ok (.iconst 0, 1) := by decide +kernel
theorem dX9_dropOldest_5 : decode cX9_dropOldest 5 = .ok (.aaload, 1) := by decide +kernel
theorem dX9_dropOldest_6 : decode cX9_dropOldest 6 = .ok (.astore_n 1, 1) := by decide +kernel
theorem dX9_dropOldest_7 : decode cX9_dropOldest 7 = .ok (.iconst 1, 1) := by decide +kernel
theorem dX9_dropOldest_8 : decode cX9_dropOldest 8 = .ok (.istore_n 2, 1) := by decide +kernel
theorem dX9_dropOldest_9 : decode cX9_dropOldest 9 = .ok (.iload_n 2, 1) := by decide +kernel
theorem dX9_dropOldest_10 : decode cX9_dropOldest 10 = .ok (.iconst 5, 1) := by decide +kernel
theorem dX9_dropOldest_11 : decode cX9_dropOldest 11 = .ok (.if_icmp .ge 23, 3) := by decide +kernel
theorem dX9_dropOldest_14 : decode cX9_dropOldest 14 = .ok (.aload_n 0, 1) := by decide +kernel
theorem dX9_dropOldest_15 : decode cX9_dropOldest 15 = .ok (.getfield 37, 3) := by decide +kernel
theorem dX9_dropOldest_18 : decode cX9_dropOldest 18 = .ok (.iload_n 2, 1) := by decide +kernel
theorem dX9_dropOldest_19 : decode cX9_dropOldest 19 = .ok (.iconst 1, 1) := by decide +kernel
theorem dX9_dropOldest_20 : decode cX9_dropOldest 20 = .ok (.isub, 1) := by decide +kernel
theorem dX9_dropOldest_21 : decode cX9_dropOldest 21 = .ok (.aload_n 0, 1) := by decide +kernel
theorem dX9_dropOldest_22 : decode cX9_dropOldest 22 = .ok (.getfield 37, 3) := by decide +kernel
theorem dX9_dropOldest_25 : decode cX9_dropOldest 25 = .ok (.iload_n 2, 1) := by decide +kernel
theorem dX9_dropOldest_26 : decode cX9_dropOldest 26 = .ok (.aaload, 1) := by decide +kernel
theorem dX9_dropOldest_27 : decode cX9_dropOldest 27 = .ok (.aastore, 1) := by decide +kernel
theorem dX9_dropOldest_28 : decode cX9_dropOldest 28 = .ok (.iinc 2 1, 3) := by decide +kernel
theorem dX9_dropOldest_31 : decode cX9_dropOldest 31 = .ok (.goto (-22), 3) := by decide +kernel
theorem dX9_dropOldest_34 : decode cX9_dropOldest 34 = .ok (.aload_n 0, 1) := by decide +kernel
theorem dX9_dropOldest_35 : decode cX9_dropOldest 35 = .ok (.getfield 37, 3) := by decide +kernel
theorem dX9_dropOldest_38 : decode cX9_dropOldest 38 = .ok (.iconst 4, 1) := by decide +kernel
theorem dX9_dropOldest_39 : decode cX9_dropOldest 39 = .ok (.aload_n 1, 1) := by decide +kernel
theorem dX9_dropOldest_40 : decode cX9_dropOldest 40 = .ok (.aastore, 1) := by decide +kernel
theorem dX9_dropOldest_41 : decode cX9_dropOldest 41 = .ok (.aload_n 0, 1) := by decide +kernel
theorem dX9_dropOldest_42 : decode cX9_dropOldest 42 = .ok (.iconst 4, 1) := by decide +kernel
theorem dX9_dropOldest_43 : decode cX9_dropOldest 43 = .ok (.putfield 212, 3) := by decide +kernel
theorem dX9_dropOldest_46 : decode cX9_dropOldest 46 = .ok (.return_, 1) := by decide +kernel
theorem dX9_isMeterValue_0 : decode cX9_isMeterValue 0 = .ok (.iload_n 0, 1) := by decide +kernel
theorem dX9_isMeterValue_1 : decode cX9_isMeterValue 1 = .ok (.iconst 1, 1) := by decide +kernel
theorem dX9_isMeterValue_2 : decode cX9_isMeterValue 2 = .ok (.if_icmp .eq 25, 3) := by decide +kernel
theorem dX9_isMeterValue_5 : decode cX9_isMeterValue 5 = .ok (.iload_n 0, 1) := by decide +kernel
theorem dX9_isMeterValue_6 : decode cX9_isMeterValue 6 = .ok (.iconst 2, 1) := by decide +kernel
theorem dX9_isMeterValue_7 : decode cX9_isMeterValue 7 = .ok (.if_icmp .eq 20, 3) := by decide +kernel
theorem dX9_isMeterValue_10 : decode cX9_isMeterValue 10 = .ok (.iload_n 0, 1) := by decide +kernel
theorem dX9_isMeterValue_11 : decode cX9_isMeterValue 11 = .ok (.iconst 4, 1) := by decide +kernel
theorem dX9_isMeterValue_12 : decode cX9_isMeterValue 12 = .ok (.if_icmp .eq 15, 3) := by decide +kernel
theorem dX9_isMeterValue_15 : decode cX9_isMeterValue 15 = .ok (.iload_n 0, 1) := by decide +kernel
theorem dX9_isMeterValue_16 : decode cX9_isMeterValue 16 = .ok (.bipush 8, 2) := by decide +kernel
theorem dX9_isMeterValue_18 : decode cX9_isMeterValue 18 = .ok (.if_icmp .eq 9, 3) := by decide +kernel
theorem dX9_isMeterValue_21 : decode cX9_isMeterValue 21 = .ok (.iload_n 0, 1) := by decide +kernel
theorem dX9_isMeterValue_22 : decode cX9_isMeterValue 22 = .ok (.bipush 16, 2) := by decide +kernel
theorem dX9_isMeterValue_24 : decode cX9_isMeterValue 24 = .ok (.if_icmp .ne 7, 3) := by decide +kernel
theorem dX9_isMeterValue_27 : decode cX9_isMeterValue 27 = .ok (.iconst 1, 1) := by decide +kernel
theorem dX9_isMeterValue_28 : decode cX9_isMeterValue 28 = .ok (.goto 4, 3) := by decide +kernel
theorem dX9_isMeterValue_31 : decode cX9_isMeterValue 31 = .ok (.iconst 0, 1) := by decide +kernel
theorem dX9_isMeterValue_32 : decode cX9_isMeterValue 32 = .ok (.ireturn, 1) := by decide +kernel
theorem dX9_meterLength_0 : decode cX9_meterLength 0 = .ok (.aload_n 0, 1) := by decide +kernel
theorem dX9_meterLength_1 : decode cX9_meterLength 1 = .ok (.getfield 53, 3) := by decide +kernel
theorem dX9_meterLength_4 : decode cX9_meterLength 4 = .ok (.iconst 1, 1) := by decide +kernel
theorem dX9_meterLength_5 : decode cX9_meterLength 5 = .ok (.if_icmp .ge 9, 3) := by decide +kernel
theorem dX9_meterLength_8 : decode cX9_meterLength 8 = .ok (.ldc2_w 137, 3) := by decide +kernel
theorem dX9_meterLength_11 : decode cX9_meterLength 11 = .ok (.goto 18, 3) := by decide +kernel
theorem dX9_meterLength_14 : decode cX9_meterLength 14 = .ok (.aload_n 0, 1) := by decide +kernel
theorem dX9_meterLength_15 : decode cX9_meterLength 15 = .ok (.getfield 49, 3) := by decide +kernel
theorem dX9_meterLength_18 : decode cX9_meterLength 18 = .ok (.i2l, 1) := by decide +kernel
theorem dX9_meterLength_19 : decode cX9_meterLength 19 = .ok (.ldc2_w 137, 3) := by decide +kernel
theorem dX9_meterLength_22 : decode cX9_meterLength 22 = .ok (.lmul, 1) := by decide +kernel
theorem dX9_meterLength_23 : decode cX9_meterLength 23 = .ok (.aload_n 0, 1) := by decide +kernel
theorem dX9_meterLength_24 : decode cX9_meterLength 24 = .ok (.getfield 53, 3) := by decide +kernel
theorem dX9_meterLength_27 : decode cX9_meterLength 27 = .ok (.i2l, 1) := by decide +kernel
theorem dX9_meterLength_28 : decode cX9_meterLength 28 = .ok (.ldiv, 1) := by decide +kernel
theorem dX9_meterLength_29 : decode cX9_meterLength 29 = .ok (.lreturn, 1) := by decide +kernel
theorem dX9_level_0 : decode cX9_level 0 = .ok (.aload_n 0, 1) := by decide +kernel
theorem dX9_level_1 : decode cX9_level 1 = .ok (.invokevirtual 183, 3) := by decide +kernel
theorem dX9_level_4 : decode cX9_level 4 = .ok (.lstore_n 3, 1) := by decide +kernel
theorem dX9_level_5 : decode cX9_level 5 = .ok (.lload_n 3, 1) := by decide +kernel
theorem dX9_level_6 : decode cX9_level 6 = .ok (.lconst 1, 1) := by decide +kernel
theorem dX9_level_7 : decode cX9_level 7 = .ok (.lcmp, 1) := by decide +kernel
theorem dX9_level_8 : decode cX9_level 8 = .ok (.ifCond .ge 6, 3) := by decide +kernel
theorem dX9_level_11 : decode cX9_level 11 = .ok (.bipush 7, 2) := by decide +kernel
theorem dX9_level_13 : decode cX9_level 13 = .ok (.ireturn, 1) := by decide +kernel
theorem dX9_level_14 : decode cX9_level 14 = .ok (.iconst 0, 1) := by decide +kernel
theorem dX9_level_15 : decode cX9_level 15 = .ok (.istore 5, 2) := by decide +kernel
theorem dX9_level_17 : decode cX9_level 17 = .ok (.iload 5, 2) := by decide +kernel
theorem dX9_level_19 : decode cX9_level 19 = .ok (.bipush 6, 2) := by decide +kernel
theorem dX9_level_21 : decode cX9_level 21 = .ok (.if_icmp .gt 23, 3) := by decide +kernel
theorem dX9_level_24 : decode cX9_level 24 = .ok (.lload_n 1, 1) := by decide +kernel
theorem dX9_level_25 : decode cX9_level 25 = .ok (.iload 5, 2) := by decide +kernel
theorem dX9_level_27 : decode cX9_level 27 = .ok (.lshl, 1) := by decide +kernel
theorem dX9_level_28 : decode cX9_level 28 = .ok (.lload_n 3, 1) := by decide +kernel
theorem dX9_level_29 : decode cX9_level 29 = .ok (.lrem, 1) := by decide +kernel
theorem dX9_level_30 : decode cX9_level 30 = .ok (.lconst 0, 1) := by decide +kernel
theorem dX9_level_31 : decode cX9_level 31 = .ok (.lcmp, 1) := by decide +kernel
theorem dX9_level_32 : decode cX9_level 32 = .ok (.ifCond .ne 6, 3) := by decide +kernel
theorem dX9_level_35 : decode cX9_level 35 = .ok (.iload 5, 2) := by decide +kernel
theorem dX9_level_37 : decode cX9_level 37 = .ok (.ireturn, 1) := by decide +kernel
theorem dX9_level_38 : decode cX9_level 38 = .ok (.iinc 5 1, 3) := by decide +kernel
theorem dX9_level_41 : decode cX9_level 41 = .ok (.goto (-24), 3) := by decide +kernel
theorem dX9_level_44 : decode cX9_level 44 = .ok (.bipush 7, 2) := by decide +kernel
theorem dX9_level_46 : decode cX9_level 46 = .ok (.ireturn, 1) := by decide +kernel
theorem dX9_leastLevelBetween_0 : decode cX9_leastLevelBetween 0 = .ok (.aload_n 0, 1) := by decide +kernel
theorem dX9_leastLevelBetween_1 : decode cX9_leastLevelBetween 1 = .ok (.invokevirtual 183, 3) := by decide +kernel
theorem dX9_leastLevelBetween_4 : decode cX9_leastLevelBetween 4 = .ok (.lstore 5, 2) := by decide +kernel
theorem dX9_leastLevelBetween_6 : decode cX9_leastLevelBetween 6 = .ok (.lload 5, 2) := by decide +kernel
theorem dX9_leastLevelBetween_8 : decode cX9_leastLevelBetween 8 = .ok (.lconst 1, 1) := by decide +kernel
theorem dX9_leastLevelBetween_9 : decode cX9_leastLevelBetween 9 = .ok (.lcmp, 1) := by decide +kernel
theorem dX9_leastLevelBetween_10 : decode cX9_leastLevelBetween 10 = .ok (.ifCond .ge 6, 3) := by decide +kernel
theorem dX9_leastLevelBetween_13 : decode cX9_leastLevelBetween 13 = .ok (.bipush 7, 2) := by decide +kernel
theorem dX9_leastLevelBetween_15 : decode cX9_leastLevelBetween 15 = .ok (.ireturn, 1) := by decide +kernel
theorem dX9_leastLevelBetween_16 : decode cX9_leastLevelBetween 16 = .ok (.iconst 0, 1) := by decide +kernel
theorem dX9_leastLevelBetween_17 : decode cX9_leastLevelBetween 17 = .ok (.istore 7, 2) := by decide +kernel
theorem dX9_leastLevelBetween_19 : decode cX9_leastLevelBetween 19 = .ok (.iload 7, 2) := by decide +kernel
theorem dX9_leastLevelBetween_21 : decode cX9_leastLevelBetween 21 = .ok (.bipush 6, 2) := by decide +kernel
theorem dX9_leastLevelBetween_23 : decode cX9_leastLevelBetween 23 = .ok (.if_icmp .gt 36, 3) := by decide +kernel
theorem dX9_leastLevelBetween_26 : decode cX9_leastLevelBetween 26 = .ok (.lload_n 1, 1) := by decide +kernel
theorem dX9_leastLevelBetween_27 : decode cX9_leastLevelBetween 27 = .ok (.iload 7, 2) := by decide +kernel
theorem dX9_leastLevelBetween_29 : decode cX9_leastLevelBetween 29 = .ok (.lshl, 1) := by decide +kernel
theorem dX9_leastLevelBetween_30 : decode cX9_leastLevelBetween 30 = .ok (.lload 5, 2) := by decide +kernel
theorem dX9_leastLevelBetween_32 : decode cX9_leastLevelBetween 32 = .ok (.ldiv, 1) := by decide +kernel
theorem dX9_leastLevelBetween_33 : decode cX9_leastLevelBetween 33 = .ok (.lconst 1, 1) := by decide +kernel
theorem dX9_leastLevelBetween_34 : decode cX9_leastLevelBetween 34 = .ok (.ladd, 1) := by decide +kernel
theorem dX9_leastLevelBetween_35 : decode cX9_leastLevelBetween 35 = .ok (.lload 5, 2) := by decide +kernel
theorem dX9_leastLevelBetween_37 : decode cX9_leastLevelBetween 37 = .ok (.lmul, 1) := by decide +kernel
theorem dX9_leastLevelBetween_38 : decode cX9_leastLevelBetween 38 = .ok (.lstore 8, 2) := by decide +kernel
theorem dX9_leastLevelBetween_40 : decode cX9_leastLevelBetween 40 = .ok (.lload 8, 2) := by decide +kernel
theorem dX9_leastLevelBetween_42 : decode cX9_leastLevelBetween 42 = .ok (.lload_n 3, 1) := by decide +kernel
theorem dX9_leastLevelBetween_43 : decode cX9_leastLevelBetween 43 = .ok (.iload 7, 2) := by decide +kernel
theorem dX9_leastLevelBetween_45 : decode cX9_leastLevelBetween 45 = .ok (.lshl, 1) := by decide +kernel
theorem dX9_leastLevelBetween_46 : decode cX9_leastLevelBetween 46 = .ok (.lcmp, 1) := by decide +kernel
theorem dX9_leastLevelBetween_47 : decode cX9_leastLevelBetween 47 = .ok (.ifCond .ge 6, 3) := by decide +kernel
theorem dX9_leastLevelBetween_50 : decode cX9_leastLevelBetween 50 = .ok (.iload 7, 2) := by decide +kernel
theorem dX9_leastLevelBetween_52 : decode cX9_leastLevelBetween 52 = .ok (.ireturn, 1) := by decide +kernel
theorem dX9_leastLevelBetween_53 : decode cX9_leastLevelBetween 53 = .ok (.iinc 7 1, 3) := by decide +kernel
theorem dX9_leastLevelBetween_56 : decode cX9_leastLevelBetween 56 = .ok (.goto (-37), 3) := by decide +kernel
theorem dX9_leastLevelBetween_59 : decode cX9_leastLevelBetween 59 = .ok (.bipush 7, 2) := by decide +kernel
theorem dX9_leastLevelBetween_61 : decode cX9_leastLevelBetween 61 = .ok (.ireturn, 1) := by decide +kernel
theorem dX9_syncopationOf_0 : decode cX9_syncopationOf 0 = .ok (.aload_n 1, 1) := by decide +kernel
theorem dX9_syncopationOf_1 : decode cX9_syncopationOf 1 = .ok (.iload_n 2, 1) := by decide +kernel
theorem dX9_syncopationOf_2 : decode cX9_syncopationOf 2 = .ok (.invokevirtual 146, 3) := by decide +kernel
theorem dX9_syncopationOf_5 : decode cX9_syncopationOf 5 = .ok (.lstore_n 3, 1) := by decide +kernel
theorem dX9_syncopationOf_6 : decode cX9_syncopationOf 6 = .ok (.iconst 0, 1) := by decide +kernel
theorem dX9_syncopationOf_7 : decode cX9_syncopationOf 7 = .ok (.aload_n 0, 1) := by decide +kernel
theorem dX9_syncopationOf_8 : decode cX9_syncopationOf 8 = .ok (.lload_n 3, 1) := by decide +kernel
theorem dX9_syncopationOf_9 : decode cX9_syncopationOf 9 = .ok (.invokevirtual 166, 3) := by decide +kernel
theorem dX9_syncopationOf_12 : decode cX9_syncopationOf 12 = .ok (.aload_n 0, 1) := by decide +kernel
theorem dX9_syncopationOf_13 : decode cX9_syncopationOf 13 = .ok (.lload_n 3, 1) := by decide +kernel
theorem dX9_syncopationOf_14 : decode cX9_syncopationOf 14 = .ok (.aload_n 1, 1) := by decide +kernel
theorem dX9_syncopationOf_15 : decode cX9_syncopationOf 15 = .ok (.iload_n 2, 1) := by decide +kernel
theorem dX9_syncopationOf_16 : decode cX9_syncopationOf 16 = .ok (.invokevirtual 150, 3) := by decide +kernel
theorem dX9_syncopationOf_19 : decode cX9_syncopationOf 19 = .ok (.invokevirtual 233, 3) := by decide +kernel
theorem dX9_syncopationOf_22 : decode cX9_syncopationOf 22 = .ok (.isub, 1) := by decide +kernel
theorem dX9_syncopationOf_23 : decode cX9_syncopationOf 23 = .ok (.invokestatic 237, 3) := by decide +kernel
theorem dX9_syncopationOf_26 : decode cX9_syncopationOf 26 = .ok (.ireturn, 1) := by decide +kernel
theorem dX9_swing_0 : decode cX9_swing 0 = .ok (.ldc2_w 243, 3) := by decide +kernel
theorem dX9_swing_3 : decode cX9_swing 3 = .ok (.lstore_n 3, 1) := by decide +kernel
theorem dX9_swing_4 : decode cX9_swing 4 = .ok (.ldc2_w 245, 3) := by decide +kernel
theorem dX9_swing_7 : decode cX9_swing 7 = .ok (.lstore 5, 2) := by decide +kernel
theorem dX9_swing_9 : decode cX9_swing 9 = .ok (.lload_n 1, 1) := by decide +kernel
theorem dX9_swing_10 : decode cX9_swing 10 = .ok (.lload_n 3, 1) := by decide +kernel
theorem dX9_swing_11 : decode cX9_swing 11 = .ok (.lrem, 1) := by decide +kernel
theorem dX9_swing_12 : decode cX9_swing 12 = .ok (.lstore 7, 2) := by decide +kernel
theorem dX9_swing_14 : decode cX9_swing 14 = .ok (.lload_n 1, 1) := by decide +kernel
theorem dX9_swing_15 : decode cX9_swing 15 = .ok (.lload 7, 2) := by decide +kernel
theorem dX9_swing_17 : decode cX9_swing 17 = .ok (.lsub, 1) := by decide +kernel
theorem dX9_swing_18 : decode cX9_swing 18 = .ok (.aload_n 0, 1) := by decide +kernel
theorem dX9_swing_19 : decode cX9_swing 19 = .ok (.getfield 56, 3) := by decide +kernel
theorem dX9_swing_22 : decode cX9_swing 22 = .ok (.aload_n 0, 1) := by decide +kernel
theorem dX9_swing_23 : decode cX9_swing 23 = .ok (.getfield 59, 3) := by decide +kernel
theorem dX9_swing_26 : decode cX9_swing 26 = .ok (.iadd, 1) := by decide +kernel
theorem dX9_swing_27 : decode cX9_swing 27 = .ok (.i2l, 1) := by decide +kernel
theorem dX9_swing_28 : decode cX9_swing 28 = .ok (.lmul, 1) := by decide +kernel
theorem dX9_swing_29 : decode cX9_swing 29 = .ok (.lstore 9, 2) := by decide +kernel
theorem dX9_swing_31 : decode cX9_swing 31 = .ok (.lload 7, 2) := by decide +kernel
theorem dX9_swing_33 : decode cX9_swing 33 = .ok (.lload 5, 2) := by decide +kernel
theorem dX9_swing_35 : decode cX9_swing 35 = .ok (.lcmp, 1) := by decide +kernel
theorem dX9_swing_36 : decode cX9_swing 36 = .ok (.ifCond .ge 19, 3) := by decide +kernel
theorem dX9_swing_39 : decode cX9_swing 39 = .ok (.lload 9, 2) := by decide +kernel
theorem dX9_swing_41 : decode cX9_swing 41 = .ok (.lload 7, 2) := by decide +kernel
theorem dX9_swing_43 : decode cX9_swing 43 = .ok (.ldc2_w 247, 3) := by decide +kernel
theorem dX9_swing_46 : decode cX9_swing 46 = .ok (.lmul, 1) := by decide +kernel
theorem dX9_swing_47 : decode cX9_swing 47 = .ok (.aload_n 0, 1) := by decide +kernel
theorem dX9_swing_48 : decode cX9_swing 48 = .ok (.getfield 56, 3) := by decide +kernel
theorem dX9_swing_51 : decode cX9_swing 51 = .ok (.i2l, 1) := by decide +kernel
theorem dX9_swing_52 : decode cX9_swing 52 = .ok (.lmul, 1) := by decide +kernel
theorem dX9_swing_53 : decode cX9_swing 53 = .ok (.ladd, 1) := by decide +kernel
theorem dX9_swing_54 : decode cX9_swing 54 = .ok (.lreturn, 1) := by decide +kernel
theorem dX9_swing_55 : decode cX9_swing 55 = .ok (.lload 9, 2) := by decide +kernel
theorem dX9_swing_57 : decode cX9_swing 57 = .ok (.lload_n 3, 1) := by decide +kernel
theorem dX9_swing_58 : decode cX9_swing 58 = .ok (.aload_n 0, 1) := by decide +kernel
theorem dX9_swing_59 : decode cX9_swing 59 = .ok (.getfield 56, 3) := by decide +kernel
theorem dX9_swing_62 : decode cX9_swing 62 = .ok (.i2l, 1) := by decide +kernel
theorem dX9_swing_63 : decode cX9_swing 63 = .ok (.lmul, 1) := by decide +kernel
theorem dX9_swing_64 : decode cX9_swing 64 = .ok (.ladd, 1) := by decide +kernel
theorem dX9_swing_65 : decode cX9_swing 65 = .ok (.lload 7, 2) := by decide +kernel
theorem dX9_swing_67 : decode cX9_swing 67 = .ok (.lload 5, 2) := by decide +kernel
theorem dX9_swing_69 : decode cX9_swing 69 = .ok (.lsub, 1) := by decide +kernel
theorem dX9_swing_70 : decode cX9_swing 70 = .ok (.ldc2_w 247, 3) := by decide +kernel
theorem dX9_swing_73 : decode cX9_swing 73 = .ok (.lmul, 1) := by decide +kernel
theorem dX9_swing_74 : decode cX9_swing 74 = .ok (.aload_n 0, 1) := by decide +kernel
theorem dX9_swing_75 : decode cX9_swing 75 = .ok (.getfield 59, 3) := by decide +kernel
theorem dX9_swing_78 : decode cX9_swing 78 = .ok (.i2l, 1) := by decide +kernel
theorem dX9_swing_79 : decode cX9_swing 79 = .ok (.lmul, 1) := by decide +kernel
theorem dX9_swing_80 : decode cX9_swing 80 = .ok (.ladd, 1) := by decide +kernel
theorem dX9_swing_81 : decode cX9_swing 81 = .ok (.lreturn, 1) := by decide +kernel
theorem dX9_isSide_0 : decode cX9_isSide 0 = .ok (.iload_n 0, 1) := by decide +kernel
theorem dX9_isSide_1 : decode cX9_isSide 1 = .ok (.ifCond .eq 8, 3) := by decide +kernel
theorem dX9_isSide_4 : decode cX9_isSide 4 = .ok (.iload_n 0, 1) := by decide +kernel
theorem dX9_isSide_5 : decode cX9_isSide 5 = .ok (.iconst 1, 1) := by decide +kernel
theorem dX9_isSide_6 : decode cX9_isSide 6 = .ok (.if_icmp .ne 7, 3) := by decide +kernel
theorem dX9_isSide_9 : decode cX9_isSide 9 = .ok (.iconst 1, 1) := by decide +kernel
theorem dX9_isSide_10 : decode cX9_isSide 10 = .ok (.goto 4, 3) := by decide +kernel
theorem dX9_isSide_13 : decode cX9_isSide 13 = .ok (.iconst 0, 1) := by decide +kernel
theorem dX9_isSide_14 : decode cX9_isSide 14 = .ok (.ireturn, 1) := by decide +kernel
theorem dX9_side_0 : decode cX9_side 0 = .ok (.lload_n 0, 1) := by decide +kernel
theorem dX9_side_1 : decode cX9_side 1 = .ok (.lload_n 2, 1) := by decide +kernel
theorem dX9_side_2 : decode cX9_side 2 = .ok (.invokestatic 186, 3) := by decide +kernel
theorem dX9_side_5 : decode cX9_side 5 = .ok (.lstore 5, 2) := by decide +kernel
theorem dX9_side_7 : decode cX9_side 7 = .ok (.lload 5, 2) := by decide +kernel
theorem dX9_side_9 : decode cX9_side 9 = .ok (.lconst 1, 1) := by decide +kernel
theorem dX9_side_10 : decode cX9_side 10 = .ok (.lcmp, 1) := by decide +kernel
theorem dX9_side_11 : decode cX9_side 11 = .ok (.ifCond .ge 5, 3) := by decide +kernel
theorem dX9_side_14 : decode cX9_side 14 = .ok (.lconst 0, 1) := by decide +kernel
theorem dX9_side_15 : decode cX9_side 15 = .ok (.lreturn, 1) := by decide +kernel
theorem dX9_side_16 : decode cX9_side 16 = .ok (.iload 4, 2) := by decide +kernel
theorem dX9_side_18 : decode cX9_side 18 = .ok (.ifCond .ne 7, 3) := by decide +kernel
theorem dX9_side_21 : decode cX9_side 21 = .ok (.lload_n 0, 1) := by decide +kernel
theorem dX9_side_22 : decode cX9_side 22 = .ok (.goto 4, 3) := by decide +kernel
theorem dX9_side_25 : decode cX9_side 25 = .ok (.lload_n 2, 1) := by decide +kernel
theorem dX9_side_26 : decode cX9_side 26 = .ok (.lload 5, 2) := by decide +kernel
theorem dX9_side_28 : decode cX9_side 28 = .ok (.ldiv, 1) := by decide +kernel
theorem dX9_side_29 : decode cX9_side 29 = .ok (.lreturn, 1) := by decide +kernel
theorem dX9_commonDivisor_0 : decode cX9_commonDivisor 0 = .ok (.lload_n 0, 1) := by decide +kernel
theorem dX9_commonDivisor_1 : decode cX9_commonDivisor 1 = .ok (.lstore 4, 2) := by decide +kernel
theorem dX9_commonDivisor_3 : decode cX9_commonDivisor 3 = .ok (.lload_n 2, 1) := by decide +kernel
theorem dX9_commonDivisor_4 : decode cX9_commonDivisor 4 = .ok (.lstore 6, 2) := by decide +kernel
theorem dX9_commonDivisor_6 : decode cX9_commonDivisor 6 = .ok (.iconst 0, 1) := by decide +kernel
theorem dX9_commonDivisor_7 : decode cX9_commonDivisor 7 = .ok (.istore 8, 2) := by decide +kernel
theorem dX9_commonDivisor_9 : decode cX9_commonDivisor 9 = .ok (.iload 8, 2) := by decide +kernel
theorem dX9_commonDivisor_11 : decode cX9_commonDivisor 11 = .ok (.bipush 100, 2) := by decide +kernel
theorem dX9_commonDivisor_13 : decode cX9_commonDivisor 13 = .ok (.if_icmp .ge 31, 3) := by decide +kernel
theorem dX9_commonDivisor_16 : decode cX9_commonDivisor 16 = .ok (.lload 6, 2) := by decide +kernel
theorem dX9_commonDivisor_18 : decode cX9_commonDivisor 18 = .ok (.lconst 0, 1) := by decide +kernel
theorem dX9_commonDivisor_19 : decode cX9_commonDivisor 19 = .ok (.lcmp, 1) := by decide +kernel
theorem dX9_commonDivisor_20 : decode cX9_commonDivisor 20 = .ok (.ifCond .eq 24, 3) := by decide +kernel
theorem dX9_commonDivisor_23 : decode cX9_commonDivisor 23 = .ok (.lload 4, 2) := by decide +kernel
theorem dX9_commonDivisor_25 : decode cX9_commonDivisor 25 = .ok (.lload 6, 2) := by decide +kernel
theorem dX9_commonDivisor_27 : decode cX9_commonDivisor 27 = .ok (.lrem, 1) := by decide +kernel
theorem dX9_commonDivisor_28 : decode cX9_commonDivisor 28 = .ok (.lstore 9, 2) := by decide +kernel
theorem dX9_commonDivisor_30 : decode cX9_commonDivisor 30 = .ok (.lload 6, 2) := by decide +kernel
theorem dX9_commonDivisor_32 : decode cX9_commonDivisor 32 = .ok (.lstore 4, 2) := by decide +kernel
theorem dX9_commonDivisor_34 : decode cX9_commonDivisor 34 = .ok (.lload 9, 2) := by decide +kernel
theorem dX9_commonDivisor_36 : decode cX9_commonDivisor 36 = .ok (.lstore 6, 2) := by decide +kernel
theorem dX9_commonDivisor_38 : decode cX9_commonDivisor 38 = .ok (.iinc 8 1, 3) := by decide +kernel
theorem dX9_commonDivisor_41 : decode cX9_commonDivisor 41 = .ok (.goto (-32), 3) := by decide +kernel
theorem dX9_commonDivisor_44 : decode cX9_commonDivisor 44 = .ok (.lload 4, 2) := by decide +kernel
theorem dX9_commonDivisor_46 : decode cX9_commonDivisor 46 = .ok (.lreturn, 1) := by decide +kernel
theorem dX9_commonCycle_0 : decode cX9_commonCycle 0 = .ok (.lload_n 0, 1) := by decide +kernel
theorem dX9_commonCycle_1 : decode cX9_commonCycle 1 = .ok (.lconst 1, 1) := by decide +kernel
theorem dX9_commonCycle_2 : decode cX9_commonCycle 2 = .ok (.lcmp, 1) := by decide +kernel
theorem dX9_commonCycle_3 : decode cX9_commonCycle 3 = .ok (.ifCond .lt 9, 3) := by decide +kernel
theorem dX9_commonCycle_6 : decode cX9_commonCycle 6 = .ok (.lload_n 2, 1) := by decide +kernel
theorem dX9_commonCycle_7 : decode cX9_commonCycle 7 = .ok (.lconst 1, 1) := by decide +kernel
theorem dX9_commonCycle_8 : decode cX9_commonCycle 8 = .ok (.lcmp, 1) := by decide +kernel
theorem dX9_commonCycle_9 : decode cX9_commonCycle 9 = .ok (.ifCond .ge 7, 3) := by decide +kernel
theorem dX9_commonCycle_12 : decode cX9_commonCycle 12 = .ok (.ldc2_w 249, 3) := by decide +kernel
theorem dX9_commonCycle_15 : decode cX9_commonCycle 15 = .ok (.lreturn, 1) := by decide +kernel
theorem dX9_commonCycle_16 : decode cX9_commonCycle 16 = .ok (.lload_n 0, 1) := by decide +kernel
theorem dX9_commonCycle_17 : decode cX9_commonCycle 17 = .ok (.lload_n 2, 1) := by decide +kernel
theorem dX9_commonCycle_18 : decode cX9_commonCycle 18 = .ok (.invokestatic 186, 3) := by decide +kernel
theorem dX9_commonCycle_21 : decode cX9_commonCycle 21 = .ok (.lstore 4, 2) := by decide +kernel
theorem dX9_commonCycle_23 : decode cX9_commonCycle 23 = .ok (.lload 4, 2) := by decide +kernel
theorem dX9_commonCycle_25 : decode cX9_commonCycle 25 = .ok (.lconst 1, 1) := by decide +kernel
theorem dX9_commonCycle_26 : decode cX9_commonCycle 26 = .ok (.lcmp, 1) := by decide +kernel
theorem dX9_commonCycle_27 : decode cX9_commonCycle 27 = .ok (.ifCond .ge 7, 3) := by decide +kernel
theorem dX9_commonCycle_30 : decode cX9_commonCycle 30 = .ok (.ldc2_w 249, 3) := by decide +kernel
theorem dX9_commonCycle_33 : decode cX9_commonCycle 33 = .ok (.lreturn, 1) := by decide +kernel
theorem dX9_commonCycle_34 : decode cX9_commonCycle 34 = .ok (.lload_n 0, 1) := by decide +kernel
theorem dX9_commonCycle_35 : decode cX9_commonCycle 35 = .ok (.lload 4, 2) := by decide +kernel
theorem dX9_commonCycle_37 : decode cX9_commonCycle 37 = .ok (.ldiv, 1) := by decide +kernel
theorem dX9_commonCycle_38 : decode cX9_commonCycle 38 = .ok (.lstore 6, 2) := by decide +kernel
theorem dX9_commonCycle_40 : decode cX9_commonCycle 40 = .ok (.lload 6, 2) := by decide +kernel
theorem dX9_commonCycle_42 : decode cX9_commonCycle 42 = .ok (.ldc2_w 251, 3) := by decide +kernel
theorem dX9_commonCycle_45 : decode cX9_commonCycle 45 = .ok (.lload_n 2, 1) := by decide +kernel
theorem dX9_commonCycle_46 : decode cX9_commonCycle 46 = .ok (.ldiv, 1) := by decide +kernel
theorem dX9_commonCycle_47 : decode cX9_commonCycle 47 = .ok (.lcmp, 1) := by decide +kernel
theorem dX9_commonCycle_48 : decode cX9_commonCycle 48 = .ok (.ifCond .le 9, 3) := by decide +kernel
theorem dX9_commonCycle_51 : decode cX9_commonCycle 51 = .ok (.ldc2_w 253, 3) := by decide +kernel
theorem dX9_commonCycle_54 : decode cX9_commonCycle 54 = .ok (.goto 7, 3) := by decide +kernel
theorem dX9_commonCycle_57 : decode cX9_commonCycle 57 = .ok (.lload 6, 2) := by decide +kernel
theorem dX9_commonCycle_59 : decode cX9_commonCycle 59 = .ok (.lload_n 2, 1) := by decide +kernel
theorem dX9_commonCycle_60 : decode cX9_commonCycle 60 = .ok (.lmul, 1) := by decide +kernel
theorem dX9_commonCycle_61 : decode cX9_commonCycle 61 = .ok (.lreturn, 1) := by decide +kernel
theorem dX9_meetings_0 : decode cX9_meetings 0 = .ok (.aload_n 0, 1) := by decide +kernel
theorem dX9_meetings_1 : decode cX9_meetings 1 = .ok (.invokevirtual 133, 3) := by decide +kernel
theorem dX9_meetings_4 : decode cX9_meetings 4 = .ok (.aload_n 1, 1) := by decide +kernel
theorem dX9_meetings_5 : decode cX9_meetings 5 = .ok (.invokevirtual 133, 3) := by decide +kernel
theorem dX9_meetings_8 : decode cX9_meetings 8 = .ok (.invokestatic 186, 3) := by decide +kernel
theorem dX9_meetings_11 : decode cX9_meetings 11 = .ok (.lstore_n 2, 1) := by decide +kernel
theorem dX9_meetings_12 : decode cX9_meetings 12 = .ok (.lload_n 2, 1) := by decide +kernel
theorem dX9_meetings_13 : decode cX9_meetings 13 = .ok (.lconst 1, 1) := by decide +kernel
theorem dX9_meetings_14 : decode cX9_meetings 14 = .ok (.lcmp, 1) := by decide +kernel
theorem dX9_meetings_15 : decode cX9_meetings 15 = .ok (.ifCond .ge 5, 3) := by decide +kernel
theorem dX9_meetings_18 : decode cX9_meetings 18 = .ok (.iconst 0, 1) := by decide +kernel
theorem dX9_meetings_19 : decode cX9_meetings 19 = .ok (.ireturn, 1) := by decide +kernel
theorem dX9_meetings_20 : decode cX9_meetings 20 = .ok (.iconst 0, 1) := by decide +kernel
theorem dX9_meetings_21 : decode cX9_meetings 21 = .ok (.istore 4, 2) := by decide +kernel
theorem dX9_meetings_23 : decode cX9_meetings 23 = .ok (.aload_n 0, 1) := by decide +kernel
theorem dX9_meetings_24 : decode cX9_meetings 24 = .ok (.invokevirtual 104, 3) := by decide +kernel
theorem dX9_meetings_27 : decode cX9_meetings 27 = .ok (.istore 5, 2) := by decide +kernel
theorem dX9_meetings_29 : decode cX9_meetings 29 = .ok (.aload_n 1, 1) := by decide +kernel
theorem dX9_meetings_30 : decode cX9_meetings 30 = .ok (.invokevirtual 104, 3) := by decide +kernel
theorem dX9_meetings_33 : decode cX9_meetings 33 = .ok (.istore 6, 2) := by decide +kernel
theorem dX9_meetings_35 : decode cX9_meetings 35 = .ok (.iconst 0, 1) := by decide +kernel
theorem dX9_meetings_36 : decode cX9_meetings 36 = .ok (.istore 7, 2) := by decide +kernel
theorem dX9_meetings_38 : decode cX9_meetings 38 = .ok (.iload 7, 2) := by decide +kernel
theorem dX9_meetings_40 : decode cX9_meetings 40 = .ok (.iload 5, 2) := by decide +kernel
theorem dX9_meetings_42 : decode cX9_meetings 42 = .ok (.if_icmp .ge 52, 3) := by decide +kernel
theorem dX9_meetings_45 : decode cX9_meetings 45 = .ok (.aload_n 0, 1) := by decide +kernel
theorem dX9_meetings_46 : decode cX9_meetings 46 = .ok (.iload 7, 2) := by decide +kernel
theorem dX9_meetings_48 : decode cX9_meetings 48 = .ok (.invokevirtual 146, 3) := by decide +kernel
theorem dX9_meetings_51 : decode cX9_meetings 51 = .ok (.lstore 8, 2) := by decide +kernel
theorem dX9_meetings_53 : decode cX9_meetings 53 = .ok (.iconst 0, 1) := by decide +kernel
theorem dX9_meetings_54 : decode cX9_meetings 54 = .ok (.istore 10, 2) := by decide +kernel
theorem dX9_meetings_56 : decode cX9_meetings 56 = .ok (.iload 10, 2) := by decide +kernel
theorem dX9_meetings_58 : decode cX9_meetings 58 = .ok (.iload 6, 2) := by decide +kernel
theorem dX9_meetings_60 : decode cX9_meetings 60 = .ok (.if_icmp .ge 28, 3) := by decide +kernel
theorem dX9_meetings_63 : decode cX9_meetings 63 = .ok (.lload 8, 2) := by decide +kernel
theorem dX9_meetings_65 : decode cX9_meetings 65 = .ok (.aload_n 1, 1) := by decide +kernel
theorem dX9_meetings_66 : decode cX9_meetings 66 = .ok (.iload 10, 2) := by decide +kernel
theorem dX9_meetings_68 : decode cX9_meetings 68 = .ok (.invokevirtual 146, 3) := by decide +kernel
theorem dX9_meetings_71 : decode cX9_meetings 71 = .ok (.lsub, 1) := by decide +kernel
theorem dX9_meetings_72 : decode cX9_meetings 72 = .ok (.lload_n 2, 1) := by decide +kernel
theorem dX9_meetings_73 : decode cX9_meetings 73 = .ok (.lrem, 1) := by decide +kernel
theorem dX9_meetings_74 : decode cX9_meetings 74 = .ok (.lconst 0, 1) := by decide +kernel
theorem dX9_meetings_75 : decode cX9_meetings 75 = .ok (.lcmp, 1) := by decide +kernel
theorem dX9_meetings_76 : decode cX9_meetings 76 = .ok (.ifCond .ne 6, 3) := by decide +kernel
theorem dX9_meetings_79 : decode cX9_meetings 79 = .ok (.iinc 4 1, 3) := by decide +kernel
theorem dX9_meetings_82 : decode cX9_meetings 82 = .ok (.iinc 10 1, 3) := by decide +kernel
theorem dX9_meetings_85 : decode cX9_meetings 85 = .ok (.goto (-29), 3) := by decide +kernel
theorem dX9_meetings_88 : decode cX9_meetings 88 = .ok (.iinc 7 1, 3) := by decide +kernel
theorem dX9_meetings_91 : decode cX9_meetings 91 = .ok (.goto (-53), 3) := by decide +kernel
theorem dX9_meetings_94 : decode cX9_meetings 94 = .ok (.iload 4, 2) := by decide +kernel
theorem dX9_meetings_96 : decode cX9_meetings 96 = .ok (.ireturn, 1) := by decide +kernel
theorem dJ11_isValidCodePoint_9a6ad_0 : decode cJ11_isValidCodePoint_9a6ad 0 = .ok (.iload_n 0, 1) := by decide +kernel
theorem dJ11_isValidCodePoint_9a6ad_1 : decode cJ11_isValidCodePoint_9a6ad 1 = .ok (.bipush 16, 2) := by decide +kernel
theorem dJ11_isValidCodePoint_9a6ad_3 : decode cJ11_isValidCodePoint_9a6ad 3 = .ok (.iushr, 1) := by decide +kernel
theorem dJ11_isValidCodePoint_9a6ad_4 : decode cJ11_isValidCodePoint_9a6ad 4 = .ok (.istore_n 1, 1) := by decide +kernel
theorem dJ11_isValidCodePoint_9a6ad_5 : decode cJ11_isValidCodePoint_9a6ad 5 = .ok (.iload_n 1, 1) := by decide +kernel
theorem dJ11_isValidCodePoint_9a6ad_6 : decode cJ11_isValidCodePoint_9a6ad 6 = .ok (.bipush 17, 2) := by decide +kernel
theorem dJ11_isValidCodePoint_9a6ad_8 : decode cJ11_isValidCodePoint_9a6ad 8 = .ok (.if_icmp .ge 7, 3) := by decide +kernel
theorem dJ11_isValidCodePoint_9a6ad_11 : decode cJ11_isValidCodePoint_9a6ad 11 = .ok (.iconst 1, 1) := by decide +kernel
theorem dJ11_isValidCodePoint_9a6ad_12 : decode cJ11_isValidCodePoint_9a6ad 12 = .ok (.goto 4, 3) := by decide +kernel
theorem dJ11_isValidCodePoint_9a6ad_15 : decode cJ11_isValidCodePoint_9a6ad 15 = .ok (.iconst 0, 1) := by decide +kernel
theorem dJ11_isValidCodePoint_9a6ad_16 : decode cJ11_isValidCodePoint_9a6ad 16 = .ok (.ireturn, 1) := by decide +kernel
theorem dJ11_highSurrogate_5068e_0 : decode cJ11_highSurrogate_5068e 0 = .ok (.iload_n 0, 1) := by decide +kernel
theorem dJ11_highSurrogate_5068e_1 : decode cJ11_highSurrogate_5068e 1 = .ok (.bipush 10, 2) := by decide +kernel
theorem dJ11_highSurrogate_5068e_3 : decode cJ11_highSurrogate_5068e 3 = .ok (.iushr, 1) := by decide +kernel
theorem dJ11_highSurrogate_5068e_4 : decode cJ11_highSurrogate_5068e 4 = .ok (.ldc 110, 2) := by decide +kernel
theorem dJ11_highSurrogate_5068e_6 : decode cJ11_highSurrogate_5068e 6 = .ok (.iadd, 1) := by decide +kernel
theorem dJ11_highSurrogate_5068e_7 : decode cJ11_highSurrogate_5068e 7 = .ok (.i2c, 1) := by decide +kernel
theorem dJ11_highSurrogate_5068e_8 : decode cJ11_highSurrogate_5068e 8 = .ok (.ireturn, 1) := by decide +kernel
theorem dJ11_lowSurrogate_5068e_0 : decode cJ11_lowSurrogate_5068e 0 = .ok (.iload_n 0, 1) := by decide +kernel
theorem dJ11_lowSurrogate_5068e_1 : decode cJ11_lowSurrogate_5068e 1 = .ok (.sipush 1023, 3) := by decide +kernel
theorem dJ11_lowSurrogate_5068e_4 : decode cJ11_lowSurrogate_5068e 4 = .ok (.iand, 1) := by decide +kernel
theorem dJ11_lowSurrogate_5068e_5 : decode cJ11_lowSurrogate_5068e 5 = .ok (.ldc 76, 2) := by decide +kernel
theorem dJ11_lowSurrogate_5068e_7 : decode cJ11_lowSurrogate_5068e 7 = .ok (.iadd, 1) := by decide +kernel
theorem dJ11_lowSurrogate_5068e_8 : decode cJ11_lowSurrogate_5068e 8 = .ok (.i2c, 1) := by decide +kernel
theorem dJ11_lowSurrogate_5068e_9 : decode cJ11_lowSurrogate_5068e 9 = .ok (.ireturn, 1) := by decide +kernel
theorem dJ9_max_7cf53_0 : decode cJ9_max_7cf53 0 = .ok (.iload_n 0, 1) := by decide +kernel
theorem dJ9_max_7cf53_1 : decode cJ9_max_7cf53 1 = .ok (.iload_n 1, 1) := by decide +kernel
theorem dJ9_max_7cf53_2 : decode cJ9_max_7cf53 2 = .ok (.if_icmp .lt 7, 3) := by decide +kernel
theorem dJ9_max_7cf53_5 : decode cJ9_max_7cf53 5 = .ok (.iload_n 0, 1) := by decide +kernel
theorem dJ9_max_7cf53_6 : decode cJ9_max_7cf53 6 = .ok (.goto 4, 3) := by decide +kernel
theorem dJ9_max_7cf53_9 : decode cJ9_max_7cf53 9 = .ok (.iload_n 1, 1) := by decide +kernel
theorem dJ9_max_7cf53_10 : decode cJ9_max_7cf53 10 = .ok (.ireturn, 1) := by decide +kernel
theorem dJ9_min_7cf53_0 : decode cJ9_min_7cf53 0 = .ok (.iload_n 0, 1) := by decide +kernel
theorem dJ9_min_7cf53_1 : decode cJ9_min_7cf53 1 = .ok (.iload_n 1, 1) := by decide +kernel
theorem dJ9_min_7cf53_2 : decode cJ9_min_7cf53 2 = .ok (.if_icmp .gt 7, 3) := by decide +kernel
theorem dJ9_min_7cf53_5 : decode cJ9_min_7cf53 5 = .ok (.iload_n 0, 1) := by decide +kernel
theorem dJ9_min_7cf53_6 : decode cJ9_min_7cf53 6 = .ok (.goto 4, 3) := by decide +kernel
theorem dJ9_min_7cf53_9 : decode cJ9_min_7cf53 9 = .ok (.iload_n 1, 1) := by decide +kernel
theorem dJ9_min_7cf53_10 : decode cJ9_min_7cf53 10 = .ok (.ireturn, 1) := by decide +kernel
theorem dJ0_length_8abf5_0 : decode cJ0_length_8abf5 0 = .ok (.aload_n 0, 1) := by decide +kernel
theorem dJ0_length_8abf5_1 : decode cJ0_length_8abf5 1 = .ok (.getfield 9, 3) := by decide +kernel
theorem dJ0_length_8abf5_4 : decode cJ0_length_8abf5 4 = .ok (.arraylength, 1) := by decide +kernel
theorem dJ0_length_8abf5_5 : decode cJ0_length_8abf5 5 = .ok (.aload_n 0, 1) := by decide +kernel
theorem dJ0_length_8abf5_6 : decode cJ0_length_8abf5 6 = .ok (.invokevirtual 335, 3) := by decide +kernel
theorem dJ0_length_8abf5_9 : decode cJ0_length_8abf5 9 = .ok (.ishr, 1) := by decide +kernel
theorem dJ0_length_8abf5_10 : decode cJ0_length_8abf5 10 = .ok (.ireturn, 1) := by decide +kernel
theorem dJ0_indexOf_0f7a4_0 : decode cJ0_indexOf_0f7a4 0 = .ok (.aload_n 0, 1) := by decide +kernel
theorem dJ0_indexOf_0f7a4_1 : decode cJ0_indexOf_0f7a4 1 = .ok (.iload_n 1, 1) := by decide +kernel
theorem dJ0_indexOf_0f7a4_2 : decode cJ0_indexOf_0f7a4 2 = .ok (.iconst 0, 1) := by decide +kernel
theorem dJ0_indexOf_0f7a4_3 : decode cJ0_indexOf_0f7a4 3 = .ok (.invokevirtual 633, 3) := by decide +kernel
theorem dJ0_indexOf_0f7a4_6 : decode cJ0_indexOf_0f7a4 6 = .ok (.ireturn, 1) := by decide +kernel
theorem dJ0_indexOf_7cf53_0 : decode cJ0_indexOf_7cf53 0 = .ok (.aload_n 0, 1) := by decide +kernel
theorem dJ0_indexOf_7cf53_1 : decode cJ0_indexOf_7cf53 1 = .ok (.invokevirtual 492, 3) := by decide +kernel
theorem dJ0_indexOf_7cf53_4 : decode cJ0_indexOf_7cf53 4 = .ok (.ifCond .eq 19, 3) := by decide +kernel
theorem dJ0_indexOf_7cf53_7 : decode cJ0_indexOf_7cf53 7 = .ok (.aload_n 0, 1) := by decide +kernel
theorem dJ0_indexOf_7cf53_8 : decode cJ0_indexOf_7cf53 8 = .ok (.getfield 9, 3) := by decide +kernel
theorem dJ0_indexOf_7cf53_11 : decode cJ0_indexOf_7cf53 11 = .ok (.iload_n 1, 1) := by decide +kernel
theorem dJ0_indexOf_7cf53_12 : decode cJ0_indexOf_7cf53 12 = .ok (.iload_n 2, 1) := by decide +kernel
theorem dJ0_indexOf_7cf53_13 : decode cJ0_indexOf_7cf53 13 = .ok (.aload_n 0, 1) := by decide +kernel
theorem dJ0_indexOf_7cf53_14 : decode cJ0_indexOf_7cf53 14 = .ok (.invokevirtual 505, 3) := by decide +kernel
theorem dJ0_indexOf_7cf53_17 : decode cJ0_indexOf_7cf53 17 = .ok (.invokestatic 637, 3) := by decide +kernel
theorem dJ0_indexOf_7cf53_20 : decode cJ0_indexOf_7cf53 20 = .ok (.goto 16, 3) := by decide +kernel
theorem dJ0_indexOf_7cf53_23 : decode cJ0_indexOf_7cf53 23 = .ok (.aload_n 0, 1) := by decide +kernel
theorem dJ0_indexOf_7cf53_24 : decode cJ0_indexOf_7cf53 24 = .ok (.getfield 9, 3) := by decide +kernel
theorem dJ0_indexOf_7cf53_27 : decode cJ0_indexOf_7cf53 27 = .ok (.iload_n 1, 1) := by decide +kernel
theorem dJ0_indexOf_7cf53_28 : decode cJ0_indexOf_7cf53 28 = .ok (.iload_n 2, 1) := by decide +kernel
theorem dJ0_indexOf_7cf53_29 : decode cJ0_indexOf_7cf53 29 = .ok (.aload_n 0, 1) := by decide +kernel
theorem dJ0_indexOf_7cf53_30 : decode cJ0_indexOf_7cf53 30 = .ok (.invokevirtual 505, 3) := by decide +kernel
theorem dJ0_indexOf_7cf53_33 : decode cJ0_indexOf_7cf53 33 = .ok (.invokestatic 640, 3) := by decide +kernel
theorem dJ0_indexOf_7cf53_36 : decode cJ0_indexOf_7cf53 36 = .ok (.ireturn, 1) := by decide +kernel
theorem dJ0_coder_7d493_0 : decode cJ0_coder_7d493 0 = .ok (.getstatic 38, 3) := by decide +kernel
theorem dJ0_coder_7d493_3 : decode cJ0_coder_7d493 3 = .ok (.ifCond .eq 10, 3) := by decide +kernel
theorem dJ0_coder_7d493_6 : decode cJ0_coder_7d493 6 = .ok (.aload_n 0, 1) := by decide +kernel
theorem dJ0_coder_7d493_7 : decode cJ0_coder_7d493 7 = .ok (.getfield 15, 3) := by decide +kernel
theorem dJ0_coder_7d493_10 : decode cJ0_coder_7d493 10 = .ok (.goto 4, 3) := by decide +kernel
theorem dJ0_coder_7d493_13 : decode cJ0_coder_7d493 13 = .ok (.iconst 1, 1) := by decide +kernel
theorem dJ0_coder_7d493_14 : decode cJ0_coder_7d493 14 = .ok (.ireturn, 1) := by decide +kernel
theorem dJ0_isLatin1_aae02_0 : decode cJ0_isLatin1_aae02 0 = .ok (.getstatic 38, 3) := by decide +kernel
theorem dJ0_isLatin1_aae02_3 : decode cJ0_isLatin1_aae02 3 = .ok (.ifCond .eq 14, 3) := by decide +kernel
theorem dJ0_isLatin1_aae02_6 : decode cJ0_isLatin1_aae02 6 = .ok (.aload_n 0, 1) := by decide +kernel
theorem dJ0_isLatin1_aae02_7 : decode cJ0_isLatin1_aae02 7 = .ok (.getfield 15, 3) := by decide +kernel
theorem dJ0_isLatin1_aae02_10 : decode cJ0_isLatin1_aae02 10 = .ok (.ifCond .ne 7, 3) := by decide +kernel
theorem dJ0_isLatin1_aae02_13 : decode cJ0_isLatin1_aae02 13 = .ok (.iconst 1, 1) := by decide +kernel
theorem dJ0_isLatin1_aae02_14 : decode cJ0_isLatin1_aae02 14 = .ok (.goto 4, 3) := by decide +kernel
theorem dJ0_isLatin1_aae02_17 : decode cJ0_isLatin1_aae02 17 = .ok (.iconst 0, 1) := by decide +kernel
theorem dJ0_isLatin1_aae02_18 : decode cJ0_isLatin1_aae02 18 = .ok (.ireturn, 1) := by decide +kernel
theorem dJ0_checkBoundsBeginEnd_23922_0 : decode cJ0_checkBoundsBeginEnd_23922 0 = .ok (.iload_n 0, 1) := by decide +kernel
theorem dJ0_checkBoundsBeginEnd_23922_1 : decode cJ0_checkBoundsBeginEnd_23922 1 = .ok (.iload_n 1, 1) := by decide +kernel
theorem dJ0_checkBoundsBeginEnd_23922_2 : decode cJ0_checkBoundsBeginEnd_23922 2 = .ok (.iload_n 2, 1) := by decide +kernel
theorem dJ0_checkBoundsBeginEnd_23922_3 : decode cJ0_checkBoundsBeginEnd_23922 3 = .ok (.getstatic 1053, 3) := by decide +kernel
theorem dJ0_checkBoundsBeginEnd_23922_6 : decode cJ0_checkBoundsBeginEnd_23922 6 = .ok (.invokestatic 1062, 3) := by decide +kernel
theorem dJ0_checkBoundsBeginEnd_23922_9 : decode cJ0_checkBoundsBeginEnd_23922 9 = .ok (.pop, 1) := by decide +kernel
theorem dJ0_checkBoundsBeginEnd_23922_10 : decode cJ0_checkBoundsBeginEnd_23922 10 = .ok (.return_, 1) := by decide +kernel
theorem dJ1_canEncode_9a6ad_0 : decode cJ1_canEncode_9a6ad 0 = .ok (.iload_n 0, 1) := by decide +kernel
theorem dJ1_canEncode_9a6ad_1 : decode cJ1_canEncode_9a6ad 1 = .ok (.ifCond .lt 14, 3) := by decide +kernel
theorem dJ1_canEncode_9a6ad_4 : decode cJ1_canEncode_9a6ad 4 = .ok (.iload_n 0, 1) := by decide +kernel
theorem dJ1_canEncode_9a6ad_5 : decode cJ1_canEncode_9a6ad 5 = .ok (.sipush 255, 3) := by decide +kernel
theorem dJ1_canEncode_9a6ad_8 : decode cJ1_canEncode_9a6ad 8 = .ok (.if_icmp .gt 7, 3) := by decide +kernel
theorem dJ1_canEncode_9a6ad_11 : decode cJ1_canEncode_9a6ad 11 = .ok (.iconst 1, 1) := by decide +kernel
theorem dJ1_canEncode_9a6ad_12 : decode cJ1_canEncode_9a6ad 12 = .ok (.goto 4, 3) := by decide +kernel
theorem dJ1_canEncode_9a6ad_15 : decode cJ1_canEncode_9a6ad 15 = .ok (.iconst 0, 1) := by decide +kernel
theorem dJ1_canEncode_9a6ad_16 : decode cJ1_canEncode_9a6ad 16 = .ok (.ireturn, 1) := by decide +kernel
theorem dJ1_indexOf_4cfef_0 : decode cJ1_indexOf_4cfef 0 = .ok (.iload_n 1, 1) := by decide +kernel
theorem dJ1_indexOf_4cfef_1 : decode cJ1_indexOf_4cfef 1 = .ok (.invokestatic 88, 3) := by decide +kernel
theorem dJ1_indexOf_4cfef_4 : decode cJ1_indexOf_4cfef 4 = .ok (.ifCond .ne 5, 3) := by decide +kernel
theorem dJ1_indexOf_4cfef_7 : decode cJ1_indexOf_4cfef 7 = .ok (.iconst (-1), 1) := by decide +kernel
theorem dJ1_indexOf_4cfef_8 : decode cJ1_indexOf_4cfef 8 = .ok (.ireturn, 1) := by decide +kernel
theorem dJ1_indexOf_4cfef_9 : decode cJ1_indexOf_4cfef 9 = .ok (.iload_n 2, 1) := by decide +kernel
theorem dJ1_indexOf_4cfef_10 : decode cJ1_indexOf_4cfef 10 = .ok (.iconst 0, 1) := by decide +kernel
theorem dJ1_indexOf_4cfef_11 : decode cJ1_indexOf_4cfef 11 = .ok (.invokestatic 92, 3) := by decide +kernel
theorem dJ1_indexOf_4cfef_14 : decode cJ1_indexOf_4cfef 14 = .ok (.istore_n 2, 1) := by decide +kernel
theorem dJ1_indexOf_4cfef_15 : decode cJ1_indexOf_4cfef 15 = .ok (.iload_n 3, 1) := by decide +kernel
theorem dJ1_indexOf_4cfef_16 : decode cJ1_indexOf_4cfef 16 = .ok (.aload_n 0, 1) := by decide +kernel
theorem dJ1_indexOf_4cfef_17 : decode cJ1_indexOf_4cfef 17 = .ok (.arraylength, 1) := by decide +kernel
theorem dJ1_indexOf_4cfef_18 : decode cJ1_indexOf_4cfef 18 = .ok (.invokestatic 38, 3) := by decide +kernel
theorem dJ1_indexOf_4cfef_21 : decode cJ1_indexOf_4cfef 21 = .ok (.istore_n 3, 1) := by decide +kernel
theorem dJ1_indexOf_4cfef_22 : decode cJ1_indexOf_4cfef 22 = .ok (.iload_n 2, 1) := by decide +kernel
theorem dJ1_indexOf_4cfef_23 : decode cJ1_indexOf_4cfef 23 = .ok (.iload_n 3, 1) := by decide +kernel
theorem dJ1_indexOf_4cfef_24 : decode cJ1_indexOf_4cfef 24 = .ok (.if_icmp .lt 5, 3) := by decide +kernel
theorem dJ1_indexOf_4cfef_27 : decode cJ1_indexOf_4cfef 27 = .ok (.iconst (-1), 1) := by decide +kernel
theorem dJ1_indexOf_4cfef_28 : decode cJ1_indexOf_4cfef 28 = .ok (.ireturn, 1) := by decide +kernel
theorem dJ1_indexOf_4cfef_29 : decode cJ1_indexOf_4cfef 29 = .ok (.aload_n 0, 1) := by decide +kernel
theorem dJ1_indexOf_4cfef_30 : decode cJ1_indexOf_4cfef 30 = .ok (.iload_n 1, 1) := by decide +kernel
theorem dJ1_indexOf_4cfef_31 : decode cJ1_indexOf_4cfef 31 = .ok (.iload_n 2, 1) := by decide +kernel
theorem dJ1_indexOf_4cfef_32 : decode cJ1_indexOf_4cfef 32 = .ok (.iload_n 3, 1) := by decide +kernel
theorem dJ1_indexOf_4cfef_33 : decode cJ1_indexOf_4cfef 33 = .ok (.invokestatic 95, 3) := by decide +kernel
theorem dJ1_indexOf_4cfef_36 : decode cJ1_indexOf_4cfef 36 = .ok (.ireturn, 1) := by decide +kernel
theorem dJ1_indexOfChar_4cfef_0 : decode cJ1_indexOfChar_4cfef 0 = .ok (.iload_n 1, 1) := by decide +kernel
theorem dJ1_indexOfChar_4cfef_1 : decode cJ1_indexOfChar_4cfef 1 = .ok (.i2b, 1) := by decide +kernel
theorem dJ1_indexOfChar_4cfef_2 : decode cJ1_indexOfChar_4cfef 2 = .ok (.istore 4, 2) := by decide +kernel
theorem dJ1_indexOfChar_4cfef_4 : decode cJ1_indexOfChar_4cfef 4 = .ok (.iload_n 2, 1) := by decide +kernel
theorem dJ1_indexOfChar_4cfef_5 : decode cJ1_indexOfChar_4cfef 5 = .ok (.istore 5, 2) := by decide +kernel
theorem dJ1_indexOfChar_4cfef_7 : decode cJ1_indexOfChar_4cfef 7 = .ok (.iload 5, 2) := by decide +kernel
theorem dJ1_indexOfChar_4cfef_9 : decode cJ1_indexOfChar_4cfef 9 = .ok (.iload_n 3, 1) := by decide +kernel
theorem dJ1_indexOfChar_4cfef_10 : decode cJ1_indexOfChar_4cfef 10 = .ok (.if_icmp .ge 21, 3) := by decide +kernel
theorem dJ1_indexOfChar_4cfef_13 : decode cJ1_indexOfChar_4cfef 13 = .ok (.aload_n 0, 1) := by decide +kernel
theorem dJ1_indexOfChar_4cfef_14 : decode cJ1_indexOfChar_4cfef 14 = .ok (.iload 5, 2) := by decide +kernel
theorem dJ1_indexOfChar_4cfef_16 : decode cJ1_indexOfChar_4cfef 16 = .ok (.baload, 1) := by decide +kernel
theorem dJ1_indexOfChar_4cfef_17 : decode cJ1_indexOfChar_4cfef 17 = .ok (.iload 4, 2) := by decide +kernel
theorem dJ1_indexOfChar_4cfef_19 : decode cJ1_indexOfChar_4cfef 19 = .ok (.if_icmp .ne 6, 3) := by decide +kernel
theorem dJ1_indexOfChar_4cfef_22 : decode cJ1_indexOfChar_4cfef 22 = .ok (.iload 5, 2) := by decide +kernel
theorem dJ1_indexOfChar_4cfef_24 : decode cJ1_indexOfChar_4cfef 24 = .ok (.ireturn, 1) := by decide +kernel
theorem dJ1_indexOfChar_4cfef_25 : decode cJ1_indexOfChar_4cfef 25 = .ok (.iinc 5 1, 3) := by decide +kernel
theorem dJ1_indexOfChar_4cfef_28 : decode cJ1_indexOfChar_4cfef 28 = .ok (.goto (-21), 3) := by decide +kernel
theorem dJ1_indexOfChar_4cfef_31 : decode cJ1_indexOfChar_4cfef 31 = .ok (.iconst (-1), 1) := by decide +kernel
theorem dJ1_indexOfChar_4cfef_32 : decode cJ1_indexOfChar_4cfef 32 = .ok (.ireturn, 1) := by decide +kernel
theorem dJ2_getChar_3b067_0 : decode cJ2_getChar_3b067 0 = .ok (.getstatic 44, 3) := by decide +kernel
theorem dJ2_getChar_3b067_3 : decode cJ2_getChar_3b067 3 = .ok (.ifCond .ne 25, 3) := by decide +kernel
theorem dJ2_getChar_3b067_6 : decode cJ2_getChar_3b067 6 = .ok (.iload_n 1, 1) := by decide +kernel
theorem dJ2_getChar_3b067_7 : decode cJ2_getChar_3b067 7 = .ok (.ifCond .lt 11, 3) := by decide +kernel
theorem dJ2_getChar_3b067_10 : decode cJ2_getChar_3b067 10 = .ok (.iload_n 1, 1) := by decide +kernel
theorem dJ2_getChar_3b067_11 : decode cJ2_getChar_3b067 11 = .ok (.aload_n 0, 1) := by decide +kernel
theorem dJ2_getChar_3b067_12 : decode cJ2_getChar_3b067 12 = .ok (.invokestatic 48, 3) := by decide +kernel
theorem dJ2_getChar_3b067_15 : decode cJ2_getChar_3b067 15 = .ok (.if_icmp .lt 13, 3) := by decide +kernel
theorem dJ2_getChar_3b067_18 : decode cJ2_getChar_3b067 18 = .ok (.new 52, 3) := by decide +kernel
theorem dJ2_getChar_3b067_21 : decode cJ2_getChar_3b067 21 = .ok (.dup, 1) := by decide +kernel
theorem dJ2_getChar_3b067_22 : decode cJ2_getChar_3b067 22 = .ok (.ldc 54, 2) := by decide +kernel
theorem dJ2_getChar_3b067_24 : decode cJ2_getChar_3b067 24 = .ok (.invokespecial 56, 3) := by decide +kernel
theorem dJ2_getChar_3b067_27 : decode cJ2_getChar_3b067 27 = .ok (.athrow, 1) := by decide +kernel
theorem dJ2_getChar_3b067_28 : decode cJ2_getChar_3b067 28 = .ok (.iload_n 1, 1) := by decide +kernel
theorem dJ2_getChar_3b067_29 : decode cJ2_getChar_3b067 29 = .ok (.iconst 1, 1) := by decide +kernel
theorem dJ2_getChar_3b067_30 : decode cJ2_getChar_3b067 30 = .ok (.ishl, 1) := by decide +kernel
theorem dJ2_getChar_3b067_31 : decode cJ2_getChar_3b067 31 = .ok (.istore_n 1, 1) := by decide +kernel
theorem dJ2_getChar_3b067_32 : decode cJ2_getChar_3b067 32 = .ok (.aload_n 0, 1) := by decide +kernel
theorem dJ2_getChar_3b067_33 : decode cJ2_getChar_3b067 33 = .ok (.iload_n 1, 1) := by decide +kernel
theorem dJ2_getChar_3b067_34 : decode cJ2_getChar_3b067 34 = .ok (.iinc 1 1, 3) := by decide +kernel
theorem dJ2_getChar_3b067_37 : decode cJ2_getChar_3b067 37 = .ok (.baload, 1) := by decide +kernel
theorem dJ2_getChar_3b067_38 : decode cJ2_getChar_3b067 38 = .ok (.sipush 255, 3) := by decide +kernel
theorem dJ2_getChar_3b067_41 : decode cJ2_getChar_3b067 41 = .ok (.iand, 1) := by decide +kernel
theorem dJ2_getChar_3b067_42 : decode cJ2_getChar_3b067 42 = .ok (.getstatic 59, 3) := by decide +kernel
theorem dJ2_getChar_3b067_45 : decode cJ2_getChar_3b067 45 = .ok (.ishl, 1) := by decide +kernel
theorem dJ2_getChar_3b067_46 : decode cJ2_getChar_3b067 46 = .ok (.aload_n 0, 1) := by decide +kernel
theorem dJ2_getChar_3b067_47 : decode cJ2_getChar_3b067 47 = .ok (.iload_n 1, 1) := by decide +kernel
theorem dJ2_getChar_3b067_48 : decode cJ2_getChar_3b067 48 = .ok (.baload, 1) := by decide +kernel
theorem dJ2_getChar_3b067_49 : decode cJ2_getChar_3b067 49 = .ok (.sipush 255, 3) := by decide +kernel
theorem dJ2_getChar_3b067_52 : decode cJ2_getChar_3b067 52 = .ok (.iand, 1) := by decide +kernel
theorem dJ2_getChar_3b067_53 : decode cJ2_getChar_3b067 53 = .ok (.getstatic 63, 3) := by decide +kernel
theorem dJ2_getChar_3b067_56 : decode cJ2_getChar_3b067 56 = .ok (.ishl, 1) := by decide +kernel
theorem dJ2_getChar_3b067_57 : decode cJ2_getChar_3b067 57 = .ok (.ior, 1) := by decide +kernel
theorem dJ2_getChar_3b067_58 : decode cJ2_getChar_3b067 58 = .ok (.i2c, 1) := by decide +kernel
theorem dJ2_getChar_3b067_59 : decode cJ2_getChar_3b067 59 = .ok (.ireturn, 1) := by decide +kernel
theorem dJ2_length_9d52b_0 : decode cJ2_length_9d52b 0 = .ok (.aload_n 0, 1) := by decide +kernel
theorem dJ2_length_9d52b_1 : decode cJ2_length_9d52b 1 = .ok (.arraylength, 1) := by decide +kernel
theorem dJ2_length_9d52b_2 : decode cJ2_length_9d52b 2 = .ok (.iconst 1, 1) := by decide +kernel
theorem dJ2_length_9d52b_3 : decode cJ2_length_9d52b 3 = .ok (.ishr, 1) := by decide +kernel
theorem dJ2_length_9d52b_4 : decode cJ2_length_9d52b 4 = .ok (.ireturn, 1) := by decide +kernel
theorem dJ2_indexOf_4cfef_0 : decode cJ2_indexOf_4cfef 0 = .ok (.iload_n 2, 1) := by decide +kernel
theorem dJ2_indexOf_4cfef_1 : decode cJ2_indexOf_4cfef 1 = .ok (.iconst 0, 1) := by decide +kernel
theorem dJ2_indexOf_4cfef_2 : decode cJ2_indexOf_4cfef 2 = .ok (.invokestatic 224, 3) := by decide +kernel
theorem dJ2_indexOf_4cfef_5 : decode cJ2_indexOf_4cfef 5 = .ok (.istore_n 2, 1) := by decide +kernel
theorem dJ2_indexOf_4cfef_6 : decode cJ2_indexOf_4cfef 6 = .ok (.iload_n 3, 1) := by decide +kernel
theorem dJ2_indexOf_4cfef_7 : decode cJ2_indexOf_4cfef 7 = .ok (.aload_n 0, 1) := by decide +kernel
theorem dJ2_indexOf_4cfef_8 : decode cJ2_indexOf_4cfef 8 = .ok (.arraylength, 1) := by decide +kernel
theorem dJ2_indexOf_4cfef_9 : decode cJ2_indexOf_4cfef 9 = .ok (.iconst 1, 1) := by decide +kernel
theorem dJ2_indexOf_4cfef_10 : decode cJ2_indexOf_4cfef 10 = .ok (.ishr, 1) := by decide +kernel
theorem dJ2_indexOf_4cfef_11 : decode cJ2_indexOf_4cfef 11 = .ok (.invokestatic 183, 3) := by decide +kernel
theorem dJ2_indexOf_4cfef_14 : decode cJ2_indexOf_4cfef 14 = .ok (.istore_n 3, 1) := by decide +kernel
theorem dJ2_indexOf_4cfef_15 : decode cJ2_indexOf_4cfef 15 = .ok (.iload_n 2, 1) := by decide +kernel
theorem dJ2_indexOf_4cfef_16 : decode cJ2_indexOf_4cfef 16 = .ok (.iload_n 3, 1) := by decide +kernel
theorem dJ2_indexOf_4cfef_17 : decode cJ2_indexOf_4cfef 17 = .ok (.if_icmp .lt 5, 3) := by decide +kernel
theorem dJ2_indexOf_4cfef_20 : decode cJ2_indexOf_4cfef 20 = .ok (.iconst (-1), 1) := by decide +kernel
theorem dJ2_indexOf_4cfef_21 : decode cJ2_indexOf_4cfef 21 = .ok (.ireturn, 1) := by decide +kernel
theorem dJ2_indexOf_4cfef_22 : decode cJ2_indexOf_4cfef 22 = .ok (.iload_n 1, 1) := by decide +kernel
theorem dJ2_indexOf_4cfef_23 : decode cJ2_indexOf_4cfef 23 = .ok (.ldc 227, 2) := by decide +kernel
theorem dJ2_indexOf_4cfef_25 : decode cJ2_indexOf_4cfef 25 = .ok (.if_icmp .ge 11, 3) := by decide +kernel
theorem dJ2_indexOf_4cfef_28 : decode cJ2_indexOf_4cfef 28 = .ok (.aload_n 0, 1) := by decide +kernel
theorem dJ2_indexOf_4cfef_29 : decode cJ2_indexOf_4cfef 29 = .ok (.iload_n 1, 1) := by decide +kernel
theorem dJ2_indexOf_4cfef_30 : decode cJ2_indexOf_4cfef 30 = .ok (.iload_n 2, 1) := by decide +kernel
theorem dJ2_indexOf_4cfef_31 : decode cJ2_indexOf_4cfef 31 = .ok (.iload_n 3, 1) := by decide +kernel
theorem dJ2_indexOf_4cfef_32 : decode cJ2_indexOf_4cfef 32 = .ok (.invokestatic 228, 3) := by decide +kernel
theorem dJ2_indexOf_4cfef_35 : decode cJ2_indexOf_4cfef 35 = .ok (.ireturn, 1) := by decide +kernel
theorem dJ2_indexOf_4cfef_36 : decode cJ2_indexOf_4cfef 36 = .ok (.aload_n 0, 1) := by decide +kernel
theorem dJ2_indexOf_4cfef_37 : decode cJ2_indexOf_4cfef 37 = .ok (.iload_n 1, 1) := by decide +kernel
theorem dJ2_indexOf_4cfef_38 : decode cJ2_indexOf_4cfef 38 = .ok (.iload_n 2, 1) := by decide +kernel
theorem dJ2_indexOf_4cfef_39 : decode cJ2_indexOf_4cfef 39 = .ok (.iload_n 3, 1) := by decide +kernel
theorem dJ2_indexOf_4cfef_40 : decode cJ2_indexOf_4cfef 40 = .ok (.invokestatic 232, 3) := by decide +kernel
theorem dJ2_indexOf_4cfef_43 : decode cJ2_indexOf_4cfef 43 = .ok (.ireturn, 1) := by decide +kernel
theorem dJ2_indexOfChar_4cfef_0 : decode cJ2_indexOfChar_4cfef 0 = .ok (.iload_n 2, 1) := by decide +kernel
theorem dJ2_indexOfChar_4cfef_1 : decode cJ2_indexOfChar_4cfef 1 = .ok (.iload_n 3, 1) := by decide +kernel
theorem dJ2_indexOfChar_4cfef_2 : decode cJ2_indexOfChar_4cfef 2 = .ok (.aload_n 0, 1) := by decide +kernel
theorem dJ2_indexOfChar_4cfef_3 : decode cJ2_indexOfChar_4cfef 3 = .ok (.invokestatic 96, 3) := by decide +kernel
theorem dJ2_indexOfChar_4cfef_6 : decode cJ2_indexOfChar_4cfef 6 = .ok (.aload_n 0, 1) := by decide +kernel
theorem dJ2_indexOfChar_4cfef_7 : decode cJ2_indexOfChar_4cfef 7 = .ok (.iload_n 1, 1) := by decide +kernel
theorem dJ2_indexOfChar_4cfef_8 : decode cJ2_indexOfChar_4cfef 8 = .ok (.iload_n 2, 1) := by decide +kernel
theorem dJ2_indexOfChar_4cfef_9 : decode cJ2_indexOfChar_4cfef 9 = .ok (.iload_n 3, 1) := by decide +kernel
theorem dJ2_indexOfChar_4cfef_10 : decode cJ2_indexOfChar_4cfef 10 = .ok (.invokestatic 244, 3) := by decide +kernel
theorem dJ2_indexOfChar_4cfef_13 : decode cJ2_indexOfChar_4cfef 13 = .ok (.ireturn, 1) := by decide +kernel
theorem dJ2_indexOfCharUnsafe_4cfef_0 : decode cJ2_indexOfCharUnsafe_4cfef 0 = .ok (.iload_n 2, 1) := by decide +kernel
theorem dJ2_indexOfCharUnsafe_4cfef_1 : decode cJ2_indexOfCharUnsafe_4cfef 1 = .ok (.istore 4, 2) := by decide +kernel
theorem dJ2_indexOfCharUnsafe_4cfef_3 : decode cJ2_indexOfCharUnsafe_4cfef 3 = .ok (.iload 4, 2) := by decide +kernel
theorem dJ2_indexOfCharUnsafe_4cfef_5 : decode cJ2_indexOfCharUnsafe_4cfef 5 = .ok (.iload_n 3, 1) := by decide +kernel
theorem dJ2_indexOfCharUnsafe_4cfef_6 : decode cJ2_indexOfCharUnsafe_4cfef 6 = .ok (.if_icmp .ge 22, 3) := by decide +kernel
theorem dJ2_indexOfCharUnsafe_4cfef_9 : decode cJ2_indexOfCharUnsafe_4cfef 9 = .ok (.aload_n 0, 1) := by decide +kernel
theorem dJ2_indexOfCharUnsafe_4cfef_10 : decode cJ2_indexOfCharUnsafe_4cfef 10 = .ok (.iload 4, 2) := by decide +kernel
theorem dJ2_indexOfCharUnsafe_4cfef_12 : decode cJ2_indexOfCharUnsafe_4cfef 12 = .ok (.invokestatic 71, 3) := by decide +kernel
theorem dJ2_indexOfCharUnsafe_4cfef_15 : decode cJ2_indexOfCharUnsafe_4cfef 15 = .ok (.iload_n 1, 1) := by decide +kernel
theorem dJ2_indexOfCharUnsafe_4cfef_16 : decode cJ2_indexOfCharUnsafe_4cfef 16 = .ok (.if_icmp .ne 6, 3) := by decide +kernel
theorem dJ2_indexOfCharUnsafe_4cfef_19 : decode cJ2_indexOfCharUnsafe_4cfef 19 = .ok (.iload 4, 2) := by decide +kernel
theorem dJ2_indexOfCharUnsafe_4cfef_21 : decode cJ2_indexOfCharUnsafe_4cfef 21 = .ok (.ireturn, 1) := by decide +kernel
theorem dJ2_indexOfCharUnsafe_4cfef_22 : decode cJ2_indexOfCharUnsafe_4cfef 22 = .ok (.iinc 4 1, 3) := by decide +kernel
theorem dJ2_indexOfCharUnsafe_4cfef_25 : decode cJ2_indexOfCharUnsafe_4cfef 25 = .ok (.goto (-22), 3) := by decide +kernel
theorem dJ2_indexOfCharUnsafe_4cfef_28 : decode cJ2_indexOfCharUnsafe_4cfef 28 = .ok (.iconst (-1), 1) := by decide +kernel
theorem dJ2_indexOfCharUnsafe_4cfef_29 : decode cJ2_indexOfCharUnsafe_4cfef 29 = .ok (.ireturn, 1) := by decide +kernel
theorem dJ2_indexOfSupplementary_4cfef_0 : decode cJ2_indexOfSupplementary_4cfef 0 = .ok (.iload_n 1, 1) := by decide +kernel
theorem dJ2_indexOfSupplementary_4cfef_1 : decode cJ2_indexOfSupplementary_4cfef 1 = .ok (.invokestatic 164, 3) := by decide +kernel
theorem dJ2_indexOfSupplementary_4cfef_4 : decode cJ2_indexOfSupplementary_4cfef 4 = .ok (.ifCond .eq 65, 3) := by decide +kernel
theorem dJ2_indexOfSupplementary_4cfef_7 : decode cJ2_indexOfSupplementary_4cfef 7 = .ok (.iload_n 1, 1) := by decide +kernel
theorem dJ2_indexOfSupplementary_4cfef_8 : decode cJ2_indexOfSupplementary_4cfef 8 = .ok (.invokestatic 157, 3) := by decide +kernel
theorem dJ2_indexOfSupplementary_4cfef_11 : decode cJ2_indexOfSupplementary_4cfef 11 = .ok (.istore 4, 2) := by decide +kernel
theorem dJ2_indexOfSupplementary_4cfef_13 : decode cJ2_indexOfSupplementary_4cfef 13 = .ok (.iload_n 1, 1) := by decide +kernel
theorem dJ2_indexOfSupplementary_4cfef_14 : decode cJ2_indexOfSupplementary_4cfef 14 = .ok (.invokestatic 161, 3) := by decide +kernel
theorem dJ2_indexOfSupplementary_4cfef_17 : decode cJ2_indexOfSupplementary_4cfef 17 = .ok (.istore 5, 2) := by decide +kernel
theorem dJ2_indexOfSupplementary_4cfef_19 : decode cJ2_indexOfSupplementary_4cfef 19 = .ok (.iload_n 2, 1) := by decide +kernel
theorem dJ2_indexOfSupplementary_4cfef_20 : decode cJ2_indexOfSupplementary_4cfef 20 = .ok (.iload_n 3, 1) := by decide +kernel
theorem dJ2_indexOfSupplementary_4cfef_21 : decode cJ2_indexOfSupplementary_4cfef 21 = .ok (.aload_n 0, 1) := by decide +kernel
theorem dJ2_indexOfSupplementary_4cfef_22 : decode cJ2_indexOfSupplementary_4cfef 22 = .ok (.invokestatic 96, 3) := by decide +kernel
theorem dJ2_indexOfSupplementary_4cfef_25 : decode cJ2_indexOfSupplementary_4cfef 25 = .ok (.iload_n 2, 1) := by decide +kernel
theorem dJ2_indexOfSupplementary_4cfef_26 : decode cJ2_indexOfSupplementary_4cfef 26 = .ok (.istore 6, 2) := by decide +kernel
theorem dJ2_indexOfSupplementary_4cfef_28 : decode cJ2_indexOfSupplementary_4cfef 28 = .ok (.iload 6, 2) := by decide +kernel
theorem dJ2_indexOfSupplementary_4cfef_30 : decode cJ2_indexOfSupplementary_4cfef 30 = .ok (.iload_n 3, 1) := by decide +kernel
theorem dJ2_indexOfSupplementary_4cfef_31 : decode cJ2_indexOfSupplementary_4cfef 31 = .ok (.iconst 1, 1) := by decide +kernel
theorem dJ2_indexOfSupplementary_4cfef_32 : decode cJ2_indexOfSupplementary_4cfef 32 = .ok (.isub, 1) := by decide +kernel
theorem dJ2_indexOfSupplementary_4cfef_33 : decode cJ2_indexOfSupplementary_4cfef 33 = .ok (.if_icmp .ge 36, 3) := by decide +kernel
theorem dJ2_indexOfSupplementary_4cfef_36 : decode cJ2_indexOfSupplementary_4cfef 36 = .ok (.aload_n 0, 1) := by decide +kernel
theorem dJ2_indexOfSupplementary_4cfef_37 : decode cJ2_indexOfSupplementary_4cfef 37 = .ok (.iload 6, 2) := by decide +kernel
theorem dJ2_indexOfSupplementary_4cfef_39 : decode cJ2_indexOfSupplementary_4cfef 39 = .ok (.invokestatic 71, 3) := by decide +kernel
theorem dJ2_indexOfSupplementary_4cfef_42 : decode cJ2_indexOfSupplementary_4cfef 42 = .ok (.iload 4, 2) := by decide +kernel
theorem dJ2_indexOfSupplementary_4cfef_44 : decode cJ2_indexOfSupplementary_4cfef 44 = .ok (.if_icmp .ne 19, 3) := by decide +kernel
theorem dJ2_indexOfSupplementary_4cfef_47 : decode cJ2_indexOfSupplementary_4cfef 47 = .ok (.aload_n 0, 1) := by decide +kernel
theorem dJ2_indexOfSupplementary_4cfef_48 : decode cJ2_indexOfSupplementary_4cfef 48 = .ok (.iload 6, 2) := by decide +kernel
theorem dJ2_indexOfSupplementary_4cfef_50 : decode cJ2_indexOfSupplementary_4cfef 50 = .ok (.iconst 1, 1) := by decide +kernel
theorem dJ2_indexOfSupplementary_4cfef_51 : decode cJ2_indexOfSupplementary_4cfef 51 = .ok (.iadd, 1) := by decide +kernel
theorem dJ2_indexOfSupplementary_4cfef_52 : decode cJ2_indexOfSupplementary_4cfef 52 = .ok (.invokestatic 71, 3) := by decide +kernel
theorem dJ2_indexOfSupplementary_4cfef_55 : decode cJ2_indexOfSupplementary_4cfef 55 = .ok (.iload 5, 2) := by decide +kernel
theorem dJ2_indexOfSupplementary_4cfef_57 : decode cJ2_indexOfSupplementary_4cfef 57 = .ok (.if_icmp .ne 6, 3) := by decide +kernel
theorem dJ2_indexOfSupplementary_4cfef_60 : decode cJ2_indexOfSupplementary_4cfef 60 = .ok (.iload 6, 2) := by decide +kernel
theorem dJ2_indexOfSupplementary_4cfef_62 : decode cJ2_indexOfSupplementary_4cfef 62 = .ok (.ireturn, 1) := by decide +kernel
theorem dJ2_indexOfSupplementary_4cfef_63 : decode cJ2_indexOfSupplementary_4cfef 63 = .ok (.iinc 6 1, 3) := by decide +kernel
theorem dJ2_indexOfSupplementary_4cfef_66 : decode cJ2_indexOfSupplementary_4cfef 66 = .ok (.goto (-38), 3) := by decide +kernel
theorem dJ2_indexOfSupplementary_4cfef_69 : decode cJ2_indexOfSupplementary_4cfef 69 = .ok (.iconst (-1), 1) := by decide +kernel
theorem dJ2_indexOfSupplementary_4cfef_70 : decode cJ2_indexOfSupplementary_4cfef 70 = .ok (.ireturn, 1) := by decide +kernel
theorem dJ2_checkBoundsBeginEnd_d044e_0 : decode cJ2_checkBoundsBeginEnd_d044e 0 = .ok (.iload_n 0, 1) := by decide +kernel
theorem dJ2_checkBoundsBeginEnd_d044e_1 : decode cJ2_checkBoundsBeginEnd_d044e 1 = .ok (.iload_n 1, 1) := by decide +kernel
theorem dJ2_checkBoundsBeginEnd_d044e_2 : decode cJ2_checkBoundsBeginEnd_d044e 2 = .ok (.aload_n 2, 1) := by decide +kernel
theorem dJ2_checkBoundsBeginEnd_d044e_3 : decode cJ2_checkBoundsBeginEnd_d044e 3 = .ok (.invokestatic 48, 3) := by decide +kernel
theorem dJ2_checkBoundsBeginEnd_d044e_6 : decode cJ2_checkBoundsBeginEnd_d044e 6 = .ok (.invokestatic 241, 3) := by decide +kernel
theorem dJ2_checkBoundsBeginEnd_d044e_9 : decode cJ2_checkBoundsBeginEnd_d044e 9 = .ok (.return_, 1) := by decide +kernel
theorem dJ3_checkFromToIndex_8c36e_0 : decode cJ3_checkFromToIndex_8c36e 0 = .ok (.iload_n 0, 1) := by decide +kernel
theorem dJ3_checkFromToIndex_8c36e_1 : decode cJ3_checkFromToIndex_8c36e 1 = .ok (.ifCond .lt 13, 3) := by decide +kernel
theorem dJ3_checkFromToIndex_8c36e_4 : decode cJ3_checkFromToIndex_8c36e 4 = .ok (.iload_n 0, 1) := by decide +kernel
theorem dJ3_checkFromToIndex_8c36e_5 : decode cJ3_checkFromToIndex_8c36e 5 = .ok (.iload_n 1, 1) := by decide +kernel
theorem dJ3_checkFromToIndex_8c36e_6 : decode cJ3_checkFromToIndex_8c36e 6 = .ok (.if_icmp .gt 8, 3) := by decide +kernel
theorem dJ3_checkFromToIndex_8c36e_9 : decode cJ3_checkFromToIndex_8c36e 9 = .ok (.iload_n 1, 1) := by decide +kernel
theorem dJ3_checkFromToIndex_8c36e_10 : decode cJ3_checkFromToIndex_8c36e 10 = .ok (.iload_n 2, 1) := by decide +kernel
theorem dJ3_checkFromToIndex_8c36e_11 : decode cJ3_checkFromToIndex_8c36e 11 = .ok (.if_icmp .le 11, 3) := by decide +kernel
theorem dJ3_checkFromToIndex_8c36e_14 : decode cJ3_checkFromToIndex_8c36e 14 = .ok (.aload_n 3, 1) := by decide +kernel
theorem dJ3_checkFromToIndex_8c36e_15 : decode cJ3_checkFromToIndex_8c36e 15 = .ok (.iload_n 0, 1) := by decide +kernel
theorem dJ3_checkFromToIndex_8c36e_16 : decode cJ3_checkFromToIndex_8c36e 16 = .ok (.iload_n 1, 1) := by decide +kernel
theorem dJ3_checkFromToIndex_8c36e_17 : decode cJ3_checkFromToIndex_8c36e 17 = .ok (.iload_n 2, 1) := by decide +kernel
theorem dJ3_checkFromToIndex_8c36e_18 : decode cJ3_checkFromToIndex_8c36e 18 = .ok (.invokestatic 99, 3) := by decide +kernel
theorem dJ3_checkFromToIndex_8c36e_21 : decode cJ3_checkFromToIndex_8c36e 21 = .ok (.athrow, 1) := by decide +kernel
theorem dJ3_checkFromToIndex_8c36e_22 : decode cJ3_checkFromToIndex_8c36e 22 = .ok (.iload_n 0, 1) := by decide +kernel
theorem dJ3_checkFromToIndex_8c36e_23 : decode cJ3_checkFromToIndex_8c36e 23 = .ok (.ireturn, 1) := by decide +kernel
