theorem d_R_init_0 : decode b_R_init 0 = .ok (.aload_n 0, 1) := by decide +kernel
theorem d_R_init_1 : decode b_R_init 1 = .ok (.invokespecial 5, 3) := by decide +kernel
theorem d_R_init_4 : decode b_R_init 4 = .ok (.aload_n 0, 1) := by decide +kernel
theorem d_R_init_5 : decode b_R_init 5 = .ok (.aload_n 1, 1) := by decide +kernel
theorem d_R_init_6 : decode b_R_init 6 = .ok (.putfield 11, 3) := by decide +kernel
theorem d_R_init_9 : decode b_R_init 9 = .ok (.aload_n 0, 1) := by decide +kernel
theorem d_R_init_10 : decode b_R_init 10 = .ok (.iconst 0, 1) := by decide +kernel
theorem d_R_init_11 : decode b_R_init 11 = .ok (.putfield 17, 3) := by decide +kernel
theorem d_R_init_14 : decode b_R_init 14 = .ok (.aload_n 0, 1) := by decide +kernel
theorem d_R_init_15 : decode b_R_init 15 = .ok (.iconst 0, 1) := by decide +kernel
theorem d_R_init_16 : decode b_R_init 16 = .ok (.putfield 21, 3) := by decide +kernel
theorem d_R_init_19 : decode b_R_init 19 = .ok (.return_, 1) := by decide +kernel
theorem d_R_startAgain_0 : decode b_R_startAgain 0 = .ok (.aload_n 0, 1) := by decide +kernel
theorem d_R_startAgain_1 : decode b_R_startAgain 1 = .ok (.iconst 0, 1) := by decide +kernel
theorem d_R_startAgain_2 : decode b_R_startAgain 2 = .ok (.putfield 17, 3) := by decide +kernel
theorem d_R_startAgain_5 : decode b_R_startAgain 5 = .ok (.aload_n 0, 1) := by decide +kernel
theorem d_R_startAgain_6 : decode b_R_startAgain 6 = .ok (.iconst 0, 1) := by decide +kernel
theorem d_R_startAgain_7 : decode b_R_startAgain 7 = .ok (.putfield 21, 3) := by decide +kernel
theorem d_R_startAgain_10 : decode b_R_startAgain 10 = .ok (.return_, 1) := by decide +kernel
theorem d_R_hasMore_0 : decode b_R_hasMore 0 = .ok (.aload_n 0, 1) := by decide +kernel
theorem d_R_hasMore_1 : decode b_R_hasMore 1 = .ok (.getfield 21, 3) := by decide +kernel
theorem d_R_hasMore_4 : decode b_R_hasMore 4 = .ok (.ifCond .ne 21, 3) := by decide +kernel
theorem d_R_hasMore_7 : decode b_R_hasMore 7 = .ok (.aload_n 0, 1) := by decide +kernel
theorem d_R_hasMore_8 : decode b_R_hasMore 8 = .ok (.getfield 17, 3) := by decide +kernel
theorem d_R_hasMore_11 : decode b_R_hasMore 11 = .ok (.aload_n 0, 1) := by decide +kernel
theorem d_R_hasMore_12 : decode b_R_hasMore 12 = .ok (.getfield 11, 3) := by decide +kernel
theorem d_R_hasMore_15 : decode b_R_hasMore 15 = .ok (.invokevirtual 25, 3) := by decide +kernel
theorem d_R_hasMore_18 : decode b_R_hasMore 18 = .ok (.if_icmp .ge 7, 3) := by decide +kernel
theorem d_R_hasMore_21 : decode b_R_hasMore 21 = .ok (.iconst 1, 1) := by decide +kernel
theorem d_R_hasMore_22 : decode b_R_hasMore 22 = .ok (.goto 4, 3) := by decide +kernel
theorem d_R_hasMore_25 : decode b_R_hasMore 25 = .ok (.iconst 0, 1) := by decide +kernel
theorem d_R_hasMore_26 : decode b_R_hasMore 26 = .ok (.ireturn, 1) := by decide +kernel
theorem d_R_faultPosition_0 : decode b_R_faultPosition 0 = .ok (.aload_n 0, 1) := by decide +kernel
theorem d_R_faultPosition_1 : decode b_R_faultPosition 1 = .ok (.invokevirtual 29, 3) := by decide +kernel
theorem d_R_faultPosition_4 : decode b_R_faultPosition 4 = .ok (.aload_n 0, 1) := by decide +kernel
theorem d_R_faultPosition_5 : decode b_R_faultPosition 5 = .ok (.invokevirtual 32, 3) := by decide +kernel
theorem d_R_faultPosition_8 : decode b_R_faultPosition 8 = .ok (.iconst 1, 1) := by decide +kernel
theorem d_R_faultPosition_9 : decode b_R_faultPosition 9 = .ok (.istore_n 1, 1) := by decide +kernel
theorem d_R_faultPosition_10 : decode b_R_faultPosition 10 = .ok (.iload_n 1, 1) := by decide +kernel
theorem d_R_faultPosition_11 : decode b_R_faultPosition 11 = .ok (.bipush 80, 2) := by decide +kernel
theorem d_R_faultPosition_13 : decode b_R_faultPosition 13 = .ok (.if_icmp .ge 20, 3) := by decide +kernel
theorem d_R_faultPosition_16 : decode b_R_faultPosition 16 = .ok (.aload_n 0, 1) := by decide +kernel
theorem d_R_faultPosition_17 : decode b_R_faultPosition 17 = .ok (.invokevirtual 35, 3) := by decide +kernel
theorem d_R_faultPosition_20 : decode b_R_faultPosition 20 = .ok (.ifCond .eq 13, 3) := by decide +kernel
theorem d_R_faultPosition_23 : decode b_R_faultPosition 23 = .ok (.aload_n 0, 1) := by decide +kernel
theorem d_R_faultPosition_24 : decode b_R_faultPosition 24 = .ok (.invokevirtual 32, 3) := by decide +kernel
theorem d_R_faultPosition_27 : decode b_R_faultPosition 27 = .ok (.iinc 1 1, 3) := by decide +kernel
theorem d_R_faultPosition_30 : decode b_R_faultPosition 30 = .ok (.goto (-20), 3) := by decide +kernel
theorem d_R_faultPosition_33 : decode b_R_faultPosition 33 = .ok (.aload_n 0, 1) := by decide +kernel
theorem d_R_faultPosition_34 : decode b_R_faultPosition 34 = .ok (.getfield 21, 3) := by decide +kernel
theorem d_R_faultPosition_37 : decode b_R_faultPosition 37 = .ok (.ifCond .eq 10, 3) := by decide +kernel
theorem d_R_faultPosition_40 : decode b_R_faultPosition 40 = .ok (.aload_n 0, 1) := by decide +kernel
theorem d_R_faultPosition_41 : decode b_R_faultPosition 41 = .ok (.getfield 17, 3) := by decide +kernel
theorem d_R_faultPosition_44 : decode b_R_faultPosition 44 = .ok (.goto 5, 3) := by decide +kernel
theorem d_R_faultPosition_47 : decode b_R_faultPosition 47 = .ok (.bipush (-6), 2) := by decide +kernel
theorem d_R_faultPosition_49 : decode b_R_faultPosition 49 = .ok (.ireturn, 1) := by decide +kernel
theorem d_R_readNext_0 : decode b_R_readNext 0 = .ok (.aload_n 0, 1) := by decide +kernel
theorem d_R_readNext_1 : decode b_R_readNext 1 = .ok (.getfield 17, 3) := by decide +kernel
theorem d_R_readNext_4 : decode b_R_readNext 4 = .ok (.ifCond .le 9, 3) := by decide +kernel
theorem d_R_readNext_7 : decode b_R_readNext 7 = .ok (.aload_n 0, 1) := by decide +kernel
theorem d_R_readNext_8 : decode b_R_readNext 8 = .ok (.bipush 59, 2) := by decide +kernel
theorem d_R_readNext_10 : decode b_R_readNext 10 = .ok (.invokevirtual 39, 3) := by decide +kernel
theorem d_R_readNext_13 : decode b_R_readNext 13 = .ok (.aload_n 0, 1) := by decide +kernel
theorem d_R_readNext_14 : decode b_R_readNext 14 = .ok (.getfield 21, 3) := by decide +kernel
theorem d_R_readNext_17 : decode b_R_readNext 17 = .ok (.ifCond .ne 7, 3) := by decide +kernel
theorem d_R_readNext_20 : decode b_R_readNext 20 = .ok (.aload_n 0, 1) := by decide +kernel
theorem d_R_readNext_21 : decode b_R_readNext 21 = .ok (.invokevirtual 43, 3) := by decide +kernel
theorem d_R_readNext_24 : decode b_R_readNext 24 = .ok (.return_, 1) := by decide +kernel
theorem d_R_carryOutOn_0 : decode b_R_carryOutOn 0 = .ok (.aload_n 0, 1) := by decide +kernel
theorem d_R_carryOutOn_1 : decode b_R_carryOutOn 1 = .ok (.getfield 46, 3) := by decide +kernel
theorem d_R_carryOutOn_4 : decode b_R_carryOutOn 4 = .ok (.lookupswitch 113 #[(99, 86), (109, 99), (114, 69), (119, 52), (120, 108)], 52) := by decide +kernel
theorem d_R_carryOutOn_56 : decode b_R_carryOutOn 56 = .ok (.aload_n 1, 1) := by decide +kernel
theorem d_R_carryOutOn_57 : decode b_R_carryOutOn 57 = .ok (.aload_n 0, 1) := by decide +kernel
theorem d_R_carryOutOn_58 : decode b_R_carryOutOn 58 = .ok (.getfield 50, 3) := by decide +kernel
theorem d_R_carryOutOn_61 : decode b_R_carryOutOn 61 = .ok (.aload_n 0, 1) := by decide +kernel
theorem d_R_carryOutOn_62 : decode b_R_carryOutOn 62 = .ok (.getfield 53, 3) := by decide +kernel
theorem d_R_carryOutOn_65 : decode b_R_carryOutOn 65 = .ok (.aload_n 0, 1) := by decide +kernel
theorem d_R_carryOutOn_66 : decode b_R_carryOutOn 66 = .ok (.getfield 56, 3) := by decide +kernel
theorem d_R_carryOutOn_69 : decode b_R_carryOutOn 69 = .ok (.invokevirtual 59, 3) := by decide +kernel
theorem d_R_carryOutOn_72 : decode b_R_carryOutOn 72 = .ok (.ireturn, 1) := by decide +kernel
theorem d_R_carryOutOn_73 : decode b_R_carryOutOn 73 = .ok (.aload_n 1, 1) := by decide +kernel
theorem d_R_carryOutOn_74 : decode b_R_carryOutOn 74 = .ok (.aload_n 0, 1) := by decide +kernel
theorem d_R_carryOutOn_75 : decode b_R_carryOutOn 75 = .ok (.getfield 50, 3) := by decide +kernel
theorem d_R_carryOutOn_78 : decode b_R_carryOutOn 78 = .ok (.aload_n 0, 1) := by decide +kernel
theorem d_R_carryOutOn_79 : decode b_R_carryOutOn 79 = .ok (.getfield 53, 3) := by decide +kernel
theorem d_R_carryOutOn_82 : decode b_R_carryOutOn 82 = .ok (.aload_n 0, 1) := by decide +kernel
theorem d_R_carryOutOn_83 : decode b_R_carryOutOn 83 = .ok (.getfield 65, 3) := by decide +kernel
theorem d_R_carryOutOn_86 : decode b_R_carryOutOn 86 = .ok (.invokevirtual 68, 3) := by decide +kernel
theorem d_R_carryOutOn_89 : decode b_R_carryOutOn 89 = .ok (.ireturn, 1) := by decide +kernel
theorem d_R_carryOutOn_90 : decode b_R_carryOutOn 90 = .ok (.aload_n 1, 1) := by decide +kernel
theorem d_R_carryOutOn_91 : decode b_R_carryOutOn 91 = .ok (.aload_n 0, 1) := by decide +kernel
theorem d_R_carryOutOn_92 : decode b_R_carryOutOn 92 = .ok (.getfield 50, 3) := by decide +kernel
theorem d_R_carryOutOn_95 : decode b_R_carryOutOn 95 = .ok (.aload_n 0, 1) := by decide +kernel
theorem d_R_carryOutOn_96 : decode b_R_carryOutOn 96 = .ok (.getfield 53, 3) := by decide +kernel
theorem d_R_carryOutOn_99 : decode b_R_carryOutOn 99 = .ok (.invokevirtual 71, 3) := by decide +kernel
theorem d_R_carryOutOn_102 : decode b_R_carryOutOn 102 = .ok (.ireturn, 1) := by decide +kernel
theorem d_R_carryOutOn_103 : decode b_R_carryOutOn 103 = .ok (.aload_n 1, 1) := by decide +kernel
theorem d_R_carryOutOn_104 : decode b_R_carryOutOn 104 = .ok (.aload_n 0, 1) := by decide +kernel
theorem d_R_carryOutOn_105 : decode b_R_carryOutOn 105 = .ok (.getfield 53, 3) := by decide +kernel
theorem d_R_carryOutOn_108 : decode b_R_carryOutOn 108 = .ok (.invokevirtual 75, 3) := by decide +kernel
theorem d_R_carryOutOn_111 : decode b_R_carryOutOn 111 = .ok (.ireturn, 1) := by decide +kernel
theorem d_R_carryOutOn_112 : decode b_R_carryOutOn 112 = .ok (.aload_n 1, 1) := by decide +kernel
theorem d_R_carryOutOn_113 : decode b_R_carryOutOn 113 = .ok (.invokevirtual 79, 3) := by decide +kernel
theorem d_R_carryOutOn_116 : decode b_R_carryOutOn 116 = .ok (.ireturn, 1) := by decide +kernel
theorem d_R_carryOutOn_117 : decode b_R_carryOutOn 117 = .ok (.bipush (-3), 2) := by decide +kernel
theorem d_R_carryOutOn_119 : decode b_R_carryOutOn 119 = .ok (.ireturn, 1) := by decide +kernel
theorem d_R_readOrder_0 : decode b_R_readOrder 0 = .ok (.aload_n 0, 1) := by decide +kernel
theorem d_R_readOrder_1 : decode b_R_readOrder 1 = .ok (.aload_n 0, 1) := by decide +kernel
theorem d_R_readOrder_2 : decode b_R_readOrder 2 = .ok (.getfield 11, 3) := by decide +kernel
theorem d_R_readOrder_5 : decode b_R_readOrder 5 = .ok (.aload_n 0, 1) := by decide +kernel
theorem d_R_readOrder_6 : decode b_R_readOrder 6 = .ok (.getfield 17, 3) := by decide +kernel
theorem d_R_readOrder_9 : decode b_R_readOrder 9 = .ok (.invokevirtual 82, 3) := by decide +kernel
theorem d_R_readOrder_12 : decode b_R_readOrder 12 = .ok (.putfield 46, 3) := by decide +kernel
theorem d_R_readOrder_15 : decode b_R_readOrder 15 = .ok (.aload_n 0, 1) := by decide +kernel
theorem d_R_readOrder_16 : decode b_R_readOrder 16 = .ok (.getfield 46, 3) := by decide +kernel
theorem d_R_readOrder_19 : decode b_R_readOrder 19 = .ok (.lookupswitch 196 #[(99, 135), (109, 162), (114, 90), (119, 49), (120, 183)], 49) := by decide +kernel
theorem d_R_readOrder_68 : decode b_R_readOrder 68 = .ok (.aload_n 0, 1) := by decide +kernel
theorem d_R_readOrder_69 : decode b_R_readOrder 69 = .ok (.dup, 1) := by decide +kernel
theorem d_R_readOrder_70 : decode b_R_readOrder 70 = .ok (.getfield 17, 3) := by decide +kernel
theorem d_R_readOrder_73 : decode b_R_readOrder 73 = .ok (.iconst 1, 1) := by decide +kernel
theorem d_R_readOrder_74 : decode b_R_readOrder 74 = .ok (.iadd, 1) := by decide +kernel
theorem d_R_readOrder_75 : decode b_R_readOrder 75 = .ok (.putfield 17, 3) := by decide +kernel
theorem d_R_readOrder_78 : decode b_R_readOrder 78 = .ok (.aload_n 0, 1) := by decide +kernel
theorem d_R_readOrder_79 : decode b_R_readOrder 79 = .ok (.bipush 58, 2) := by decide +kernel
theorem d_R_readOrder_81 : decode b_R_readOrder 81 = .ok (.invokevirtual 86, 3) := by decide +kernel
theorem d_R_readOrder_84 : decode b_R_readOrder 84 = .ok (.aload_n 0, 1) := by decide +kernel
theorem d_R_readOrder_85 : decode b_R_readOrder 85 = .ok (.aload_n 0, 1) := by decide +kernel
theorem d_R_readOrder_86 : decode b_R_readOrder 86 = .ok (.invokevirtual 89, 3) := by decide +kernel
theorem d_R_readOrder_89 : decode b_R_readOrder 89 = .ok (.putfield 53, 3) := by decide +kernel
theorem d_R_readOrder_92 : decode b_R_readOrder 92 = .ok (.aload_n 0, 1) := by decide +kernel
theorem d_R_readOrder_93 : decode b_R_readOrder 93 = .ok (.bipush 35, 2) := by decide +kernel
theorem d_R_readOrder_95 : decode b_R_readOrder 95 = .ok (.invokevirtual 39, 3) := by decide +kernel
theorem d_R_readOrder_98 : decode b_R_readOrder 98 = .ok (.aload_n 0, 1) := by decide +kernel
theorem d_R_readOrder_99 : decode b_R_readOrder 99 = .ok (.aload_n 0, 1) := by decide +kernel
theorem d_R_readOrder_100 : decode b_R_readOrder 100 = .ok (.invokevirtual 89, 3) := by decide +kernel
theorem d_R_readOrder_103 : decode b_R_readOrder 103 = .ok (.putfield 56, 3) := by decide +kernel
theorem d_R_readOrder_106 : decode b_R_readOrder 106 = .ok (.goto 114, 3) := by decide +kernel
theorem d_R_readOrder_109 : decode b_R_readOrder 109 = .ok (.aload_n 0, 1) := by decide +kernel
theorem d_R_readOrder_110 : decode b_R_readOrder 110 = .ok (.dup, 1) := by decide +kernel
theorem d_R_readOrder_111 : decode b_R_readOrder 111 = .ok (.getfield 17, 3) := by decide +kernel
theorem d_R_readOrder_114 : decode b_R_readOrder 114 = .ok (.iconst 1, 1) := by decide +kernel
theorem d_R_readOrder_115 : decode b_R_readOrder 115 = .ok (.iadd, 1) := by decide +kernel
theorem d_R_readOrder_116 : decode b_R_readOrder 116 = .ok (.putfield 17, 3) := by decide +kernel
theorem d_R_readOrder_119 : decode b_R_readOrder 119 = .ok (.aload_n 0, 1) := by decide +kernel
theorem d_R_readOrder_120 : decode b_R_readOrder 120 = .ok (.bipush 46, 2) := by decide +kernel
theorem d_R_readOrder_122 : decode b_R_readOrder 122 = .ok (.invokevirtual 86, 3) := by decide +kernel
theorem d_R_readOrder_125 : decode b_R_readOrder 125 = .ok (.aload_n 0, 1) := by decide +kernel
theorem d_R_readOrder_126 : decode b_R_readOrder 126 = .ok (.aload_n 0, 1) := by decide +kernel
theorem d_R_readOrder_127 : decode b_R_readOrder 127 = .ok (.invokevirtual 89, 3) := by decide +kernel
theorem d_R_readOrder_130 : decode b_R_readOrder 130 = .ok (.putfield 53, 3) := by decide +kernel
theorem d_R_readOrder_133 : decode b_R_readOrder 133 = .ok (.aload_n 0, 1) := by decide +kernel
theorem d_R_readOrder_134 : decode b_R_readOrder 134 = .ok (.aload_n 0, 1) := by decide +kernel
theorem d_R_readOrder_135 : decode b_R_readOrder 135 = .ok (.bipush 45, 2) := by decide +kernel
theorem d_R_readOrder_137 : decode b_R_readOrder 137 = .ok (.invokevirtual 92, 3) := by decide +kernel
theorem d_R_readOrder_140 : decode b_R_readOrder 140 = .ok (.ifCond .eq 7, 3) := by decide +kernel
theorem d_R_readOrder_143 : decode b_R_readOrder 143 = .ok (.iconst 1, 1) := by decide +kernel
theorem d_R_readOrder_144 : decode b_R_readOrder 144 = .ok (.goto 4, 3) := by decide +kernel
theorem d_R_readOrder_147 : decode b_R_readOrder 147 = .ok (.iconst 0, 1) := by decide +kernel
theorem d_R_readOrder_148 : decode b_R_readOrder 148 = .ok (.putfield 65, 3) := by decide +kernel
theorem d_R_readOrder_151 : decode b_R_readOrder 151 = .ok (.goto 69, 3) := by decide +kernel
theorem d_R_readOrder_154 : decode b_R_readOrder 154 = .ok (.aload_n 0, 1) := by decide +kernel
theorem d_R_readOrder_155 : decode b_R_readOrder 155 = .ok (.dup, 1) := by decide +kernel
theorem d_R_readOrder_156 : decode b_R_readOrder 156 = .ok (.getfield 17, 3) := by decide +kernel
theorem d_R_readOrder_159 : decode b_R_readOrder 159 = .ok (.iconst 1, 1) := by decide +kernel
theorem d_R_readOrder_160 : decode b_R_readOrder 160 = .ok (.iadd, 1) := by decide +kernel
theorem d_R_readOrder_161 : decode b_R_readOrder 161 = .ok (.putfield 17, 3) := by decide +kernel
theorem d_R_readOrder_164 : decode b_R_readOrder 164 = .ok (.aload_n 0, 1) := by decide +kernel
theorem d_R_readOrder_165 : decode b_R_readOrder 165 = .ok (.bipush 46, 2) := by decide +kernel
theorem d_R_readOrder_167 : decode b_R_readOrder 167 = .ok (.invokevirtual 86, 3) := by decide +kernel
theorem d_R_readOrder_170 : decode b_R_readOrder 170 = .ok (.aload_n 0, 1) := by decide +kernel
theorem d_R_readOrder_171 : decode b_R_readOrder 171 = .ok (.aload_n 0, 1) := by decide +kernel
theorem d_R_readOrder_172 : decode b_R_readOrder 172 = .ok (.invokevirtual 89, 3) := by decide +kernel
theorem d_R_readOrder_175 : decode b_R_readOrder 175 = .ok (.putfield 53, 3) := by decide +kernel
theorem d_R_readOrder_178 : decode b_R_readOrder 178 = .ok (.goto 42, 3) := by decide +kernel
theorem d_R_readOrder_181 : decode b_R_readOrder 181 = .ok (.aload_n 0, 1) := by decide +kernel
theorem d_R_readOrder_182 : decode b_R_readOrder 182 = .ok (.dup, 1) := by decide +kernel
theorem d_R_readOrder_183 : decode b_R_readOrder 183 = .ok (.getfield 17, 3) := by decide +kernel
theorem d_R_readOrder_186 : decode b_R_readOrder 186 = .ok (.iconst 1, 1) := by decide +kernel
theorem d_R_readOrder_187 : decode b_R_readOrder 187 = .ok (.iadd, 1) := by decide +kernel
theorem d_R_readOrder_188 : decode b_R_readOrder 188 = .ok (.putfield 17, 3) := by decide +kernel
theorem d_R_readOrder_191 : decode b_R_readOrder 191 = .ok (.aload_n 0, 1) := by decide +kernel
theorem d_R_readOrder_192 : decode b_R_readOrder 192 = .ok (.aload_n 0, 1) := by decide +kernel
theorem d_R_readOrder_193 : decode b_R_readOrder 193 = .ok (.invokevirtual 89, 3) := by decide +kernel
theorem d_R_readOrder_196 : decode b_R_readOrder 196 = .ok (.putfield 53, 3) := by decide +kernel
theorem d_R_readOrder_199 : decode b_R_readOrder 199 = .ok (.goto 21, 3) := by decide +kernel
theorem d_R_readOrder_202 : decode b_R_readOrder 202 = .ok (.aload_n 0, 1) := by decide +kernel
theorem d_R_readOrder_203 : decode b_R_readOrder 203 = .ok (.dup, 1) := by decide +kernel
theorem d_R_readOrder_204 : decode b_R_readOrder 204 = .ok (.getfield 17, 3) := by decide +kernel
theorem d_R_readOrder_207 : decode b_R_readOrder 207 = .ok (.iconst 1, 1) := by decide +kernel
theorem d_R_readOrder_208 : decode b_R_readOrder 208 = .ok (.iadd, 1) := by decide +kernel
theorem d_R_readOrder_209 : decode b_R_readOrder 209 = .ok (.putfield 17, 3) := by decide +kernel
theorem d_R_readOrder_212 : decode b_R_readOrder 212 = .ok (.goto 8, 3) := by decide +kernel
theorem d_R_readOrder_215 : decode b_R_readOrder 215 = .ok (.aload_n 0, 1) := by decide +kernel
theorem d_R_readOrder_216 : decode b_R_readOrder 216 = .ok (.iconst 1, 1) := by decide +kernel
theorem d_R_readOrder_217 : decode b_R_readOrder 217 = .ok (.putfield 21, 3) := by decide +kernel
theorem d_R_readOrder_220 : decode b_R_readOrder 220 = .ok (.return_, 1) := by decide +kernel
theorem d_R_readFile_0 : decode b_R_readFile 0 = .ok (.aload_n 0, 1) := by decide +kernel
theorem d_R_readFile_1 : decode b_R_readFile 1 = .ok (.bipush 49, 2) := by decide +kernel
theorem d_R_readFile_3 : decode b_R_readFile 3 = .ok (.invokevirtual 92, 3) := by decide +kernel
theorem d_R_readFile_6 : decode b_R_readFile 6 = .ok (.ifCond .eq 11, 3) := by decide +kernel
theorem d_R_readFile_9 : decode b_R_readFile 9 = .ok (.aload_n 0, 1) := by decide +kernel
theorem d_R_readFile_10 : decode b_R_readFile 10 = .ok (.iconst 1, 1) := by decide +kernel
theorem d_R_readFile_11 : decode b_R_readFile 11 = .ok (.putfield 50, 3) := by decide +kernel
theorem d_R_readFile_14 : decode b_R_readFile 14 = .ok (.goto 14, 3) := by decide +kernel
theorem d_R_readFile_17 : decode b_R_readFile 17 = .ok (.aload_n 0, 1) := by decide +kernel
theorem d_R_readFile_18 : decode b_R_readFile 18 = .ok (.bipush 48, 2) := by decide +kernel
theorem d_R_readFile_20 : decode b_R_readFile 20 = .ok (.invokevirtual 39, 3) := by decide +kernel
theorem d_R_readFile_23 : decode b_R_readFile 23 = .ok (.aload_n 0, 1) := by decide +kernel
theorem d_R_readFile_24 : decode b_R_readFile 24 = .ok (.iconst 0, 1) := by decide +kernel
theorem d_R_readFile_25 : decode b_R_readFile 25 = .ok (.putfield 50, 3) := by decide +kernel
theorem d_R_readFile_28 : decode b_R_readFile 28 = .ok (.aload_n 0, 1) := by decide +kernel
theorem d_R_readFile_29 : decode b_R_readFile 29 = .ok (.iload_n 1, 1) := by decide +kernel
theorem d_R_readFile_30 : decode b_R_readFile 30 = .ok (.invokevirtual 39, 3) := by decide +kernel
theorem d_R_readFile_33 : decode b_R_readFile 33 = .ok (.return_, 1) := by decide +kernel
theorem d_R_readNumber_0 : decode b_R_readNumber 0 = .ok (.aload_n 0, 1) := by decide +kernel
theorem d_R_readNumber_1 : decode b_R_readNumber 1 = .ok (.invokevirtual 96, 3) := by decide +kernel
theorem d_R_readNumber_4 : decode b_R_readNumber 4 = .ok (.ifCond .ne 8, 3) := by decide +kernel
theorem d_R_readNumber_7 : decode b_R_readNumber 7 = .ok (.aload_n 0, 1) := by decide +kernel
theorem d_R_readNumber_8 : decode b_R_readNumber 8 = .ok (.iconst 1, 1) := by decide +kernel
theorem d_R_readNumber_9 : decode b_R_readNumber 9 = .ok (.putfield 21, 3) := by decide +kernel
theorem d_R_readNumber_12 : decode b_R_readNumber 12 = .ok (.aload_n 0, 1) := by decide +kernel
theorem d_R_readNumber_13 : decode b_R_readNumber 13 = .ok (.bipush 48, 2) := by decide +kernel
theorem d_R_readNumber_15 : decode b_R_readNumber 15 = .ok (.invokevirtual 92, 3) := by decide +kernel
theorem d_R_readNumber_18 : decode b_R_readNumber 18 = .ok (.ifCond .eq 5, 3) := by decide +kernel
theorem d_R_readNumber_21 : decode b_R_readNumber 21 = .ok (.iconst 0, 1) := by decide +kernel
theorem d_R_readNumber_22 : decode b_R_readNumber 22 = .ok (.ireturn, 1) := by decide +kernel
theorem d_R_readNumber_23 : decode b_R_readNumber 23 = .ok (.iconst 0, 1) := by decide +kernel
theorem d_R_readNumber_24 : decode b_R_readNumber 24 = .ok (.istore_n 1, 1) := by decide +kernel
theorem d_R_readNumber_25 : decode b_R_readNumber 25 = .ok (.iconst 0, 1) := by decide +kernel
theorem d_R_readNumber_26 : decode b_R_readNumber 26 = .ok (.istore_n 2, 1) := by decide +kernel
theorem d_R_readNumber_27 : decode b_R_readNumber 27 = .ok (.iload_n 2, 1) := by decide +kernel
theorem d_R_readNumber_28 : decode b_R_readNumber 28 = .ok (.iconst 4, 1) := by decide +kernel
theorem d_R_readNumber_29 : decode b_R_readNumber 29 = .ok (.if_icmp .ge 46, 3) := by decide +kernel
theorem d_R_readNumber_32 : decode b_R_readNumber 32 = .ok (.aload_n 0, 1) := by decide +kernel
theorem d_R_readNumber_33 : decode b_R_readNumber 33 = .ok (.invokevirtual 96, 3) := by decide +kernel
theorem d_R_readNumber_36 : decode b_R_readNumber 36 = .ok (.ifCond .eq 39, 3) := by decide +kernel
theorem d_R_readNumber_39 : decode b_R_readNumber 39 = .ok (.bipush 10, 2) := by decide +kernel
theorem d_R_readNumber_41 : decode b_R_readNumber 41 = .ok (.iload_n 1, 1) := by decide +kernel
theorem d_R_readNumber_42 : decode b_R_readNumber 42 = .ok (.imul, 1) := by decide +kernel
theorem d_R_readNumber_43 : decode b_R_readNumber 43 = .ok (.aload_n 0, 1) := by decide +kernel
theorem d_R_readNumber_44 : decode b_R_readNumber 44 = .ok (.getfield 11, 3) := by decide +kernel
theorem d_R_readNumber_47 : decode b_R_readNumber 47 = .ok (.aload_n 0, 1) := by decide +kernel
theorem d_R_readNumber_48 : decode b_R_readNumber 48 = .ok (.getfield 17, 3) := by decide +kernel
theorem d_R_readNumber_51 : decode b_R_readNumber 51 = .ok (.invokevirtual 82, 3) := by decide +kernel
theorem d_R_readNumber_54 : decode b_R_readNumber 54 = .ok (.bipush 48, 2) := by decide +kernel
theorem d_R_readNumber_56 : decode b_R_readNumber 56 = .ok (.isub, 1) := by decide +kernel
theorem d_R_readNumber_57 : decode b_R_readNumber 57 = .ok (.iadd, 1) := by decide +kernel
theorem d_R_readNumber_58 : decode b_R_readNumber 58 = .ok (.istore_n 1, 1) := by decide +kernel
theorem d_R_readNumber_59 : decode b_R_readNumber 59 = .ok (.aload_n 0, 1) := by decide +kernel
theorem d_R_readNumber_60 : decode b_R_readNumber 60 = .ok (.dup, 1) := by decide +kernel
theorem d_R_readNumber_61 : decode b_R_readNumber 61 = .ok (.getfield 17, 3) := by decide +kernel
theorem d_R_readNumber_64 : decode b_R_readNumber 64 = .ok (.iconst 1, 1) := by decide +kernel
theorem d_R_readNumber_65 : decode b_R_readNumber 65 = .ok (.iadd, 1) := by decide +kernel
theorem d_R_readNumber_66 : decode b_R_readNumber 66 = .ok (.putfield 17, 3) := by decide +kernel
theorem d_R_readNumber_69 : decode b_R_readNumber 69 = .ok (.iinc 2 1, 3) := by decide +kernel
theorem d_R_readNumber_72 : decode b_R_readNumber 72 = .ok (.goto (-45), 3) := by decide +kernel
theorem d_R_readNumber_75 : decode b_R_readNumber 75 = .ok (.iload_n 1, 1) := by decide +kernel
theorem d_R_readNumber_76 : decode b_R_readNumber 76 = .ok (.ireturn, 1) := by decide +kernel
theorem d_R_isDigitNext_0 : decode b_R_isDigitNext 0 = .ok (.aload_n 0, 1) := by decide +kernel
theorem d_R_isDigitNext_1 : decode b_R_isDigitNext 1 = .ok (.getfield 11, 3) := by decide +kernel
theorem d_R_isDigitNext_4 : decode b_R_isDigitNext 4 = .ok (.aload_n 0, 1) := by decide +kernel
theorem d_R_isDigitNext_5 : decode b_R_isDigitNext 5 = .ok (.getfield 17, 3) := by decide +kernel
theorem d_R_isDigitNext_8 : decode b_R_isDigitNext 8 = .ok (.invokevirtual 82, 3) := by decide +kernel
theorem d_R_isDigitNext_11 : decode b_R_isDigitNext 11 = .ok (.istore_n 1, 1) := by decide +kernel
theorem d_R_isDigitNext_12 : decode b_R_isDigitNext 12 = .ok (.aload_n 0, 1) := by decide +kernel
theorem d_R_isDigitNext_13 : decode b_R_isDigitNext 13 = .ok (.getfield 21, 3) := by decide +kernel
theorem d_R_isDigitNext_16 : decode b_R_isDigitNext 16 = .ok (.ifCond .ne 19, 3) := by decide +kernel
theorem d_R_isDigitNext_19 : decode b_R_isDigitNext 19 = .ok (.iload_n 1, 1) := by decide +kernel
theorem d_R_isDigitNext_20 : decode b_R_isDigitNext 20 = .ok (.bipush 48, 2) := by decide +kernel
theorem d_R_isDigitNext_22 : decode b_R_isDigitNext 22 = .ok (.if_icmp .lt 13, 3) := by decide +kernel
theorem d_R_isDigitNext_25 : decode b_R_isDigitNext 25 = .ok (.iload_n 1, 1) := by decide +kernel
theorem d_R_isDigitNext_26 : decode b_R_isDigitNext 26 = .ok (.bipush 57, 2) := by decide +kernel
theorem d_R_isDigitNext_28 : decode b_R_isDigitNext 28 = .ok (.if_icmp .gt 7, 3) := by decide +kernel
theorem d_R_isDigitNext_31 : decode b_R_isDigitNext 31 = .ok (.iconst 1, 1) := by decide +kernel
theorem d_R_isDigitNext_32 : decode b_R_isDigitNext 32 = .ok (.goto 4, 3) := by decide +kernel
theorem d_R_isDigitNext_35 : decode b_R_isDigitNext 35 = .ok (.iconst 0, 1) := by decide +kernel
theorem d_R_isDigitNext_36 : decode b_R_isDigitNext 36 = .ok (.ireturn, 1) := by decide +kernel
theorem d_R_passIfThere_0 : decode b_R_passIfThere 0 = .ok (.aload_n 0, 1) := by decide +kernel
theorem d_R_passIfThere_1 : decode b_R_passIfThere 1 = .ok (.getfield 21, 3) := by decide +kernel
theorem d_R_passIfThere_4 : decode b_R_passIfThere 4 = .ok (.ifCond .ne 18, 3) := by decide +kernel
theorem d_R_passIfThere_7 : decode b_R_passIfThere 7 = .ok (.aload_n 0, 1) := by decide +kernel
theorem d_R_passIfThere_8 : decode b_R_passIfThere 8 = .ok (.getfield 11, 3) := by decide +kernel
theorem d_R_passIfThere_11 : decode b_R_passIfThere 11 = .ok (.aload_n 0, 1) := by decide +kernel
theorem d_R_passIfThere_12 : decode b_R_passIfThere 12 = .ok (.getfield 17, 3) := by decide +kernel
theorem d_R_passIfThere_15 : decode b_R_passIfThere 15 = .ok (.invokevirtual 82, 3) := by decide +kernel
theorem d_R_passIfThere_18 : decode b_R_passIfThere 18 = .ok (.iload_n 1, 1) := by decide +kernel
theorem d_R_passIfThere_19 : decode b_R_passIfThere 19 = .ok (.if_icmp .eq 5, 3) := by decide +kernel
theorem d_R_passIfThere_22 : decode b_R_passIfThere 22 = .ok (.iconst 0, 1) := by decide +kernel
theorem d_R_passIfThere_23 : decode b_R_passIfThere 23 = .ok (.ireturn, 1) := by decide +kernel
theorem d_R_passIfThere_24 : decode b_R_passIfThere 24 = .ok (.aload_n 0, 1) := by decide +kernel
theorem d_R_passIfThere_25 : decode b_R_passIfThere 25 = .ok (.dup, 1) := by decide +kernel
theorem d_R_passIfThere_26 : decode b_R_passIfThere 26 = .ok (.getfield 17, 3) := by decide +kernel
theorem d_R_passIfThere_29 : decode b_R_passIfThere 29 = .ok (.iconst 1, 1) := by decide +kernel
theorem d_R_passIfThere_30 : decode b_R_passIfThere 30 = .ok (.iadd, 1) := by decide +kernel
theorem d_R_passIfThere_31 : decode b_R_passIfThere 31 = .ok (.putfield 17, 3) := by decide +kernel
theorem d_R_passIfThere_34 : decode b_R_passIfThere 34 = .ok (.iconst 1, 1) := by decide +kernel
theorem d_R_passIfThere_35 : decode b_R_passIfThere 35 = .ok (.ireturn, 1) := by decide +kernel
theorem d_R_pass_0 : decode b_R_pass 0 = .ok (.aload_n 0, 1) := by decide +kernel
theorem d_R_pass_1 : decode b_R_pass 1 = .ok (.iload_n 1, 1) := by decide +kernel
theorem d_R_pass_2 : decode b_R_pass 2 = .ok (.invokevirtual 92, 3) := by decide +kernel
theorem d_R_pass_5 : decode b_R_pass 5 = .ok (.ifCond .ne 8, 3) := by decide +kernel
theorem d_R_pass_8 : decode b_R_pass 8 = .ok (.aload_n 0, 1) := by decide +kernel
theorem d_R_pass_9 : decode b_R_pass 9 = .ok (.iconst 1, 1) := by decide +kernel
theorem d_R_pass_10 : decode b_R_pass 10 = .ok (.putfield 21, 3) := by decide +kernel
theorem d_R_pass_13 : decode b_R_pass 13 = .ok (.return_, 1) := by decide +kernel
theorem d_P_init_0 : decode b_P_init 0 = .ok (.aload_n 0, 1) := by decide +kernel
theorem d_P_init_1 : decode b_P_init 1 = .ok (.invokespecial 3, 3) := by decide +kernel
theorem d_P_init_4 : decode b_P_init 4 = .ok (.aload_n 0, 1) := by decide +kernel
theorem d_P_init_5 : decode b_P_init 5 = .ok (.bipush 80, 2) := by decide +kernel
theorem d_P_init_7 : decode b_P_init 7 = .ok (.newarray .char, 2) := by decide +kernel
theorem d_P_init_9 : decode b_P_init 9 = .ok (.putfield 11, 3) := by decide +kernel
theorem d_P_init_12 : decode b_P_init 12 = .ok (.aload_n 0, 1) := by decide +kernel
theorem d_P_init_13 : decode b_P_init 13 = .ok (.iconst 0, 1) := by decide +kernel
theorem d_P_init_14 : decode b_P_init 14 = .ok (.putfield 15, 3) := by decide +kernel
theorem d_P_init_17 : decode b_P_init 17 = .ok (.return_, 1) := by decide +kernel
theorem d_P_size_0 : decode b_P_size 0 = .ok (.aload_n 0, 1) := by decide +kernel
theorem d_P_size_1 : decode b_P_size 1 = .ok (.getfield 15, 3) := by decide +kernel
theorem d_P_size_4 : decode b_P_size 4 = .ok (.ireturn, 1) := by decide +kernel
theorem d_P_characterAt_0 : decode b_P_characterAt 0 = .ok (.iload_n 1, 1) := by decide +kernel
theorem d_P_characterAt_1 : decode b_P_characterAt 1 = .ok (.ifCond .lt 20, 3) := by decide +kernel
theorem d_P_characterAt_4 : decode b_P_characterAt 4 = .ok (.iload_n 1, 1) := by decide +kernel
theorem d_P_characterAt_5 : decode b_P_characterAt 5 = .ok (.aload_n 0, 1) := by decide +kernel
theorem d_P_characterAt_6 : decode b_P_characterAt 6 = .ok (.getfield 15, 3) := by decide +kernel
theorem d_P_characterAt_9 : decode b_P_characterAt 9 = .ok (.if_icmp .ge 12, 3) := by decide +kernel
theorem d_P_characterAt_12 : decode b_P_characterAt 12 = .ok (.aload_n 0, 1) := by decide +kernel
theorem d_P_characterAt_13 : decode b_P_characterAt 13 = .ok (.getfield 11, 3) := by decide +kernel
theorem d_P_characterAt_16 : decode b_P_characterAt 16 = .ok (.iload_n 1, 1) := by decide +kernel
theorem d_P_characterAt_17 : decode b_P_characterAt 17 = .ok (.caload, 1) := by decide +kernel
theorem d_P_characterAt_18 : decode b_P_characterAt 18 = .ok (.goto 4, 3) := by decide +kernel
theorem d_P_characterAt_21 : decode b_P_characterAt 21 = .ok (.iconst 0, 1) := by decide +kernel
theorem d_P_characterAt_22 : decode b_P_characterAt 22 = .ok (.ireturn, 1) := by decide +kernel
theorem d_P_append_0 : decode b_P_append 0 = .ok (.aload_n 0, 1) := by decide +kernel
theorem d_P_append_1 : decode b_P_append 1 = .ok (.lload_n 1, 1) := by decide +kernel
theorem d_P_append_2 : decode b_P_append 2 = .ok (.invokevirtual 19, 3) := by decide +kernel
theorem d_P_append_5 : decode b_P_append 5 = .ok (.istore_n 3, 1) := by decide +kernel
theorem d_P_append_6 : decode b_P_append 6 = .ok (.iload_n 3, 1) := by decide +kernel
theorem d_P_append_7 : decode b_P_append 7 = .ok (.iconst 1, 1) := by decide +kernel
theorem d_P_append_8 : decode b_P_append 8 = .ok (.if_icmp .ge 6, 3) := by decide +kernel
theorem d_P_append_11 : decode b_P_append 11 = .ok (.bipush (-2), 2) := by decide +kernel
theorem d_P_append_13 : decode b_P_append 13 = .ok (.ireturn, 1) := by decide +kernel
theorem d_P_append_14 : decode b_P_append 14 = .ok (.aload_n 0, 1) := by decide +kernel
theorem d_P_append_15 : decode b_P_append 15 = .ok (.getfield 15, 3) := by decide +kernel
theorem d_P_append_18 : decode b_P_append 18 = .ok (.iload_n 3, 1) := by decide +kernel
theorem d_P_append_19 : decode b_P_append 19 = .ok (.iadd, 1) := by decide +kernel
theorem d_P_append_20 : decode b_P_append 20 = .ok (.bipush 80, 2) := by decide +kernel
theorem d_P_append_22 : decode b_P_append 22 = .ok (.if_icmp .le 6, 3) := by decide +kernel
theorem d_P_append_25 : decode b_P_append 25 = .ok (.bipush (-4), 2) := by decide +kernel
theorem d_P_append_27 : decode b_P_append 27 = .ok (.ireturn, 1) := by decide +kernel
theorem d_P_append_28 : decode b_P_append 28 = .ok (.iload_n 3, 1) := by decide +kernel
theorem d_P_append_29 : decode b_P_append 29 = .ok (.iconst 1, 1) := by decide +kernel
theorem d_P_append_30 : decode b_P_append 30 = .ok (.isub, 1) := by decide +kernel
theorem d_P_append_31 : decode b_P_append 31 = .ok (.istore 4, 2) := by decide +kernel
theorem d_P_append_33 : decode b_P_append 33 = .ok (.iload 4, 2) := by decide +kernel
theorem d_P_append_35 : decode b_P_append 35 = .ok (.ifCond .lt 41, 3) := by decide +kernel
theorem d_P_append_38 : decode b_P_append 38 = .ok (.aload_n 0, 1) := by decide +kernel
theorem d_P_append_39 : decode b_P_append 39 = .ok (.getfield 11, 3) := by decide +kernel
theorem d_P_append_42 : decode b_P_append 42 = .ok (.aload_n 0, 1) := by decide +kernel
theorem d_P_append_43 : decode b_P_append 43 = .ok (.getfield 15, 3) := by decide +kernel
theorem d_P_append_46 : decode b_P_append 46 = .ok (.lload_n 1, 1) := by decide +kernel
theorem d_P_append_47 : decode b_P_append 47 = .ok (.bipush 8, 2) := by decide +kernel
theorem d_P_append_49 : decode b_P_append 49 = .ok (.iload 4, 2) := by decide +kernel
theorem d_P_append_51 : decode b_P_append 51 = .ok (.imul, 1) := by decide +kernel
theorem d_P_append_52 : decode b_P_append 52 = .ok (.lushr, 1) := by decide +kernel
theorem d_P_append_53 : decode b_P_append 53 = .ok (.ldc2_w 23, 3) := by decide +kernel
theorem d_P_append_56 : decode b_P_append 56 = .ok (.land, 1) := by decide +kernel
theorem d_P_append_57 : decode b_P_append 57 = .ok (.l2i, 1) := by decide +kernel
theorem d_P_append_58 : decode b_P_append 58 = .ok (.i2c, 1) := by decide +kernel
theorem d_P_append_59 : decode b_P_append 59 = .ok (.castore, 1) := by decide +kernel
theorem d_P_append_60 : decode b_P_append 60 = .ok (.aload_n 0, 1) := by decide +kernel
theorem d_P_append_61 : decode b_P_append 61 = .ok (.dup, 1) := by decide +kernel
theorem d_P_append_62 : decode b_P_append 62 = .ok (.getfield 15, 3) := by decide +kernel
theorem d_P_append_65 : decode b_P_append 65 = .ok (.iconst 1, 1) := by decide +kernel
theorem d_P_append_66 : decode b_P_append 66 = .ok (.iadd, 1) := by decide +kernel
theorem d_P_append_67 : decode b_P_append 67 = .ok (.putfield 15, 3) := by decide +kernel
theorem d_P_append_70 : decode b_P_append 70 = .ok (.iinc 4 (-1), 3) := by decide +kernel
theorem d_P_append_73 : decode b_P_append 73 = .ok (.goto (-40), 3) := by decide +kernel
theorem d_P_append_76 : decode b_P_append 76 = .ok (.aload_n 0, 1) := by decide +kernel
theorem d_P_append_77 : decode b_P_append 77 = .ok (.getfield 15, 3) := by decide +kernel
theorem d_P_append_80 : decode b_P_append 80 = .ok (.ireturn, 1) := by decide +kernel
theorem d_P_clear_0 : decode b_P_clear 0 = .ok (.aload_n 0, 1) := by decide +kernel
theorem d_P_clear_1 : decode b_P_clear 1 = .ok (.getfield 15, 3) := by decide +kernel
theorem d_P_clear_4 : decode b_P_clear 4 = .ok (.istore_n 1, 1) := by decide +kernel
theorem d_P_clear_5 : decode b_P_clear 5 = .ok (.aload_n 0, 1) := by decide +kernel
theorem d_P_clear_6 : decode b_P_clear 6 = .ok (.iconst 0, 1) := by decide +kernel
theorem d_P_clear_7 : decode b_P_clear 7 = .ok (.putfield 15, 3) := by decide +kernel
theorem d_P_clear_10 : decode b_P_clear 10 = .ok (.iload_n 1, 1) := by decide +kernel
theorem d_P_clear_11 : decode b_P_clear 11 = .ok (.ireturn, 1) := by decide +kernel
theorem d_P_charactersIn_0 : decode b_P_charactersIn 0 = .ok (.lload_n 1, 1) := by decide +kernel
theorem d_P_charactersIn_1 : decode b_P_charactersIn 1 = .ok (.lstore_n 3, 1) := by decide +kernel
theorem d_P_charactersIn_2 : decode b_P_charactersIn 2 = .ok (.iconst 0, 1) := by decide +kernel
theorem d_P_charactersIn_3 : decode b_P_charactersIn 3 = .ok (.istore 5, 2) := by decide +kernel
theorem d_P_charactersIn_5 : decode b_P_charactersIn 5 = .ok (.iload 5, 2) := by decide +kernel
theorem d_P_charactersIn_7 : decode b_P_charactersIn 7 = .ok (.bipush 8, 2) := by decide +kernel
theorem d_P_charactersIn_9 : decode b_P_charactersIn 9 = .ok (.if_icmp .ge 47, 3) := by decide +kernel
theorem d_P_charactersIn_12 : decode b_P_charactersIn 12 = .ok (.lload_n 3, 1) := by decide +kernel
theorem d_P_charactersIn_13 : decode b_P_charactersIn 13 = .ok (.lconst 0, 1) := by decide +kernel
theorem d_P_charactersIn_14 : decode b_P_charactersIn 14 = .ok (.lcmp, 1) := by decide +kernel
theorem d_P_charactersIn_15 : decode b_P_charactersIn 15 = .ok (.ifCond .eq 41, 3) := by decide +kernel
theorem d_P_charactersIn_18 : decode b_P_charactersIn 18 = .ok (.lload_n 3, 1) := by decide +kernel
theorem d_P_charactersIn_19 : decode b_P_charactersIn 19 = .ok (.ldc2_w 23, 3) := by decide +kernel
theorem d_P_charactersIn_22 : decode b_P_charactersIn 22 = .ok (.land, 1) := by decide +kernel
theorem d_P_charactersIn_23 : decode b_P_charactersIn 23 = .ok (.lstore 6, 2) := by decide +kernel
theorem d_P_charactersIn_25 : decode b_P_charactersIn 25 = .ok (.lload 6, 2) := by decide +kernel
theorem d_P_charactersIn_27 : decode b_P_charactersIn 27 = .ok (.ldc2_w 25, 3) := by decide +kernel
theorem d_P_charactersIn_30 : decode b_P_charactersIn 30 = .ok (.lcmp, 1) := by decide +kernel
theorem d_P_charactersIn_31 : decode b_P_charactersIn 31 = .ok (.ifCond .lt 12, 3) := by decide +kernel
theorem d_P_charactersIn_34 : decode b_P_charactersIn 34 = .ok (.lload 6, 2) := by decide +kernel
theorem d_P_charactersIn_36 : decode b_P_charactersIn 36 = .ok (.ldc2_w 27, 3) := by decide +kernel
theorem d_P_charactersIn_39 : decode b_P_charactersIn 39 = .ok (.lcmp, 1) := by decide +kernel
theorem d_P_charactersIn_40 : decode b_P_charactersIn 40 = .ok (.ifCond .le 5, 3) := by decide +kernel
theorem d_P_charactersIn_43 : decode b_P_charactersIn 43 = .ok (.iconst 0, 1) := by decide +kernel
theorem d_P_charactersIn_44 : decode b_P_charactersIn 44 = .ok (.ireturn, 1) := by decide +kernel
theorem d_P_charactersIn_45 : decode b_P_charactersIn 45 = .ok (.lload_n 3, 1) := by decide +kernel
theorem d_P_charactersIn_46 : decode b_P_charactersIn 46 = .ok (.bipush 8, 2) := by decide +kernel
theorem d_P_charactersIn_48 : decode b_P_charactersIn 48 = .ok (.lushr, 1) := by decide +kernel
theorem d_P_charactersIn_49 : decode b_P_charactersIn 49 = .ok (.lstore_n 3, 1) := by decide +kernel
theorem d_P_charactersIn_50 : decode b_P_charactersIn 50 = .ok (.iinc 5 1, 3) := by decide +kernel
theorem d_P_charactersIn_53 : decode b_P_charactersIn 53 = .ok (.goto (-48), 3) := by decide +kernel
theorem d_P_charactersIn_56 : decode b_P_charactersIn 56 = .ok (.iload 5, 2) := by decide +kernel
theorem d_P_charactersIn_58 : decode b_P_charactersIn 58 = .ok (.ireturn, 1) := by decide +kernel
theorem d_T_init_0 : decode b_T_init 0 = .ok (.aload_n 0, 1) := by decide +kernel
theorem d_T_init_1 : decode b_T_init 1 = .ok (.invokespecial 3, 3) := by decide +kernel
theorem d_T_init_4 : decode b_T_init 4 = .ok (.aload_n 0, 1) := by decide +kernel
theorem d_T_init_5 : decode b_T_init 5 = .ok (.sipush 600, 3) := by decide +kernel
theorem d_T_init_8 : decode b_T_init 8 = .ok (.putfield 9, 3) := by decide +kernel
theorem d_T_init_11 : decode b_T_init 11 = .ok (.aload_n 0, 1) := by decide +kernel
theorem d_T_init_12 : decode b_T_init 12 = .ok (.bipush 10, 2) := by decide +kernel
theorem d_T_init_14 : decode b_T_init 14 = .ok (.putfield 15, 3) := by decide +kernel
theorem d_T_init_17 : decode b_T_init 17 = .ok (.aload_n 0, 1) := by decide +kernel
theorem d_T_init_18 : decode b_T_init 18 = .ok (.iconst 2, 1) := by decide +kernel
theorem d_T_init_19 : decode b_T_init 19 = .ok (.putfield 18, 3) := by decide +kernel
theorem d_T_init_22 : decode b_T_init 22 = .ok (.aload_n 0, 1) := by decide +kernel
theorem d_T_init_23 : decode b_T_init 23 = .ok (.iconst 0, 1) := by decide +kernel
theorem d_T_init_24 : decode b_T_init 24 = .ok (.putfield 21, 3) := by decide +kernel
theorem d_T_init_27 : decode b_T_init 27 = .ok (.aload_n 0, 1) := by decide +kernel
theorem d_T_init_28 : decode b_T_init 28 = .ok (.iconst 0, 1) := by decide +kernel
theorem d_T_init_29 : decode b_T_init 29 = .ok (.putfield 24, 3) := by decide +kernel
theorem d_T_init_32 : decode b_T_init 32 = .ok (.aload_n 0, 1) := by decide +kernel
theorem d_T_init_33 : decode b_T_init 33 = .ok (.iconst 0, 1) := by decide +kernel
theorem d_T_init_34 : decode b_T_init 34 = .ok (.putfield 27, 3) := by decide +kernel
theorem d_T_init_37 : decode b_T_init 37 = .ok (.aload_n 0, 1) := by decide +kernel
theorem d_T_init_38 : decode b_T_init 38 = .ok (.iconst 0, 1) := by decide +kernel
theorem d_T_init_39 : decode b_T_init 39 = .ok (.putfield 30, 3) := by decide +kernel
theorem d_T_init_42 : decode b_T_init 42 = .ok (.aload_n 0, 1) := by decide +kernel
theorem d_T_init_43 : decode b_T_init 43 = .ok (.iconst 0, 1) := by decide +kernel
theorem d_T_init_44 : decode b_T_init 44 = .ok (.putfield 33, 3) := by decide +kernel
theorem d_T_init_47 : decode b_T_init 47 = .ok (.aload_n 0, 1) := by decide +kernel
theorem d_T_init_48 : decode b_T_init 48 = .ok (.iconst 2, 1) := by decide +kernel
theorem d_T_init_49 : decode b_T_init 49 = .ok (.newarray .int, 2) := by decide +kernel
theorem d_T_init_51 : decode b_T_init 51 = .ok (.putfield 36, 3) := by decide +kernel
theorem d_T_init_54 : decode b_T_init 54 = .ok (.aload_n 0, 1) := by decide +kernel
theorem d_T_init_55 : decode b_T_init 55 = .ok (.bipush 40, 2) := by decide +kernel
theorem d_T_init_57 : decode b_T_init 57 = .ok (.newarray .int, 2) := by decide +kernel
theorem d_T_init_59 : decode b_T_init 59 = .ok (.putfield 40, 3) := by decide +kernel
theorem d_T_init_62 : decode b_T_init 62 = .ok (.aload_n 0, 1) := by decide +kernel
theorem d_T_init_63 : decode b_T_init 63 = .ok (.bipush 40, 2) := by decide +kernel
theorem d_T_init_65 : decode b_T_init 65 = .ok (.newarray .int, 2) := by decide +kernel
theorem d_T_init_67 : decode b_T_init 67 = .ok (.putfield 43, 3) := by decide +kernel
theorem d_T_init_70 : decode b_T_init 70 = .ok (.aload_n 0, 1) := by decide +kernel
theorem d_T_init_71 : decode b_T_init 71 = .ok (.bipush 40, 2) := by decide +kernel
theorem d_T_init_73 : decode b_T_init 73 = .ok (.newarray .int, 2) := by decide +kernel
theorem d_T_init_75 : decode b_T_init 75 = .ok (.putfield 46, 3) := by decide +kernel
theorem d_T_init_78 : decode b_T_init 78 = .ok (.aload_n 0, 1) := by decide +kernel
theorem d_T_init_79 : decode b_T_init 79 = .ok (.bipush 40, 2) := by decide +kernel
theorem d_T_init_81 : decode b_T_init 81 = .ok (.newarray .int, 2) := by decide +kernel
theorem d_T_init_83 : decode b_T_init 83 = .ok (.putfield 49, 3) := by decide +kernel
theorem d_T_init_86 : decode b_T_init 86 = .ok (.return_, 1) := by decide +kernel
theorem d_T_copyFrom_0 : decode b_T_copyFrom 0 = .ok (.aload_n 0, 1) := by decide +kernel
theorem d_T_copyFrom_1 : decode b_T_copyFrom 1 = .ok (.aload_n 1, 1) := by decide +kernel
theorem d_T_copyFrom_2 : decode b_T_copyFrom 2 = .ok (.getfield 9, 3) := by decide +kernel
theorem d_T_copyFrom_5 : decode b_T_copyFrom 5 = .ok (.putfield 9, 3) := by decide +kernel
theorem d_T_copyFrom_8 : decode b_T_copyFrom 8 = .ok (.aload_n 0, 1) := by decide +kernel
theorem d_T_copyFrom_9 : decode b_T_copyFrom 9 = .ok (.aload_n 1, 1) := by decide +kernel
theorem d_T_copyFrom_10 : decode b_T_copyFrom 10 = .ok (.getfield 15, 3) := by decide +kernel
theorem d_T_copyFrom_13 : decode b_T_copyFrom 13 = .ok (.putfield 15, 3) := by decide +kernel
theorem d_T_copyFrom_16 : decode b_T_copyFrom 16 = .ok (.aload_n 0, 1) := by decide +kernel
theorem d_T_copyFrom_17 : decode b_T_copyFrom 17 = .ok (.aload_n 1, 1) := by decide +kernel
theorem d_T_copyFrom_18 : decode b_T_copyFrom 18 = .ok (.getfield 18, 3) := by decide +kernel
theorem d_T_copyFrom_21 : decode b_T_copyFrom 21 = .ok (.putfield 18, 3) := by decide +kernel
theorem d_T_copyFrom_24 : decode b_T_copyFrom 24 = .ok (.aload_n 0, 1) := by decide +kernel
theorem d_T_copyFrom_25 : decode b_T_copyFrom 25 = .ok (.aload_n 1, 1) := by decide +kernel
theorem d_T_copyFrom_26 : decode b_T_copyFrom 26 = .ok (.getfield 21, 3) := by decide +kernel
theorem d_T_copyFrom_29 : decode b_T_copyFrom 29 = .ok (.putfield 21, 3) := by decide +kernel
theorem d_T_copyFrom_32 : decode b_T_copyFrom 32 = .ok (.aload_n 0, 1) := by decide +kernel
theorem d_T_copyFrom_33 : decode b_T_copyFrom 33 = .ok (.aload_n 1, 1) := by decide +kernel
theorem d_T_copyFrom_34 : decode b_T_copyFrom 34 = .ok (.getfield 24, 3) := by decide +kernel
theorem d_T_copyFrom_37 : decode b_T_copyFrom 37 = .ok (.putfield 24, 3) := by decide +kernel
theorem d_T_copyFrom_40 : decode b_T_copyFrom 40 = .ok (.aload_n 0, 1) := by decide +kernel
theorem d_T_copyFrom_41 : decode b_T_copyFrom 41 = .ok (.aload_n 1, 1) := by decide +kernel
theorem d_T_copyFrom_42 : decode b_T_copyFrom 42 = .ok (.getfield 27, 3) := by decide +kernel
theorem d_T_copyFrom_45 : decode b_T_copyFrom 45 = .ok (.putfield 27, 3) := by decide +kernel
theorem d_T_copyFrom_48 : decode b_T_copyFrom 48 = .ok (.aload_n 0, 1) := by decide +kernel
theorem d_T_copyFrom_49 : decode b_T_copyFrom 49 = .ok (.aload_n 1, 1) := by decide +kernel
theorem d_T_copyFrom_50 : decode b_T_copyFrom 50 = .ok (.getfield 30, 3) := by decide +kernel
theorem d_T_copyFrom_53 : decode b_T_copyFrom 53 = .ok (.putfield 30, 3) := by decide +kernel
theorem d_T_copyFrom_56 : decode b_T_copyFrom 56 = .ok (.aload_n 0, 1) := by decide +kernel
theorem d_T_copyFrom_57 : decode b_T_copyFrom 57 = .ok (.aload_n 1, 1) := by decide +kernel
theorem d_T_copyFrom_58 : decode b_T_copyFrom 58 = .ok (.getfield 33, 3) := by decide +kernel
theorem d_T_copyFrom_61 : decode b_T_copyFrom 61 = .ok (.putfield 33, 3) := by decide +kernel
theorem d_T_copyFrom_64 : decode b_T_copyFrom 64 = .ok (.aload_n 1, 1) := by decide +kernel
theorem d_T_copyFrom_65 : decode b_T_copyFrom 65 = .ok (.getfield 36, 3) := by decide +kernel
theorem d_T_copyFrom_68 : decode b_T_copyFrom 68 = .ok (.iconst 0, 1) := by decide +kernel
theorem d_T_copyFrom_69 : decode b_T_copyFrom 69 = .ok (.aload_n 0, 1) := by decide +kernel
theorem d_T_copyFrom_70 : decode b_T_copyFrom 70 = .ok (.getfield 36, 3) := by decide +kernel
theorem d_T_copyFrom_73 : decode b_T_copyFrom 73 = .ok (.iconst 0, 1) := by decide +kernel
theorem d_T_copyFrom_74 : decode b_T_copyFrom 74 = .ok (.iconst 2, 1) := by decide +kernel
theorem d_T_copyFrom_75 : decode b_T_copyFrom 75 = .ok (.invokestatic 52, 3) := by decide +kernel
theorem d_T_copyFrom_78 : decode b_T_copyFrom 78 = .ok (.aload_n 1, 1) := by decide +kernel
theorem d_T_copyFrom_79 : decode b_T_copyFrom 79 = .ok (.getfield 40, 3) := by decide +kernel
theorem d_T_copyFrom_82 : decode b_T_copyFrom 82 = .ok (.iconst 0, 1) := by decide +kernel
theorem d_T_copyFrom_83 : decode b_T_copyFrom 83 = .ok (.aload_n 0, 1) := by decide +kernel
theorem d_T_copyFrom_84 : decode b_T_copyFrom 84 = .ok (.getfield 40, 3) := by decide +kernel
theorem d_T_copyFrom_87 : decode b_T_copyFrom 87 = .ok (.iconst 0, 1) := by decide +kernel
theorem d_T_copyFrom_88 : decode b_T_copyFrom 88 = .ok (.bipush 40, 2) := by decide +kernel
theorem d_T_copyFrom_90 : decode b_T_copyFrom 90 = .ok (.invokestatic 52, 3) := by decide +kernel
theorem d_T_copyFrom_93 : decode b_T_copyFrom 93 = .ok (.aload_n 1, 1) := by decide +kernel
theorem d_T_copyFrom_94 : decode b_T_copyFrom 94 = .ok (.getfield 43, 3) := by decide +kernel
theorem d_T_copyFrom_97 : decode b_T_copyFrom 97 = .ok (.iconst 0, 1) := by decide +kernel
theorem d_T_copyFrom_98 : decode b_T_copyFrom 98 = .ok (.aload_n 0, 1) := by decide +kernel
theorem d_T_copyFrom_99 : decode b_T_copyFrom 99 = .ok (.getfield 43, 3) := by decide +kernel
theorem d_T_copyFrom_102 : decode b_T_copyFrom 102 = .ok (.iconst 0, 1) := by decide +kernel
theorem d_T_copyFrom_103 : decode b_T_copyFrom 103 = .ok (.bipush 40, 2) := by decide +kernel
theorem d_T_copyFrom_105 : decode b_T_copyFrom 105 = .ok (.invokestatic 52, 3) := by decide +kernel
theorem d_T_copyFrom_108 : decode b_T_copyFrom 108 = .ok (.aload_n 1, 1) := by decide +kernel
theorem d_T_copyFrom_109 : decode b_T_copyFrom 109 = .ok (.getfield 46, 3) := by decide +kernel
theorem d_T_copyFrom_112 : decode b_T_copyFrom 112 = .ok (.iconst 0, 1) := by decide +kernel
theorem d_T_copyFrom_113 : decode b_T_copyFrom 113 = .ok (.aload_n 0, 1) := by decide +kernel
theorem d_T_copyFrom_114 : decode b_T_copyFrom 114 = .ok (.getfield 46, 3) := by decide +kernel
theorem d_T_copyFrom_117 : decode b_T_copyFrom 117 = .ok (.iconst 0, 1) := by decide +kernel
theorem d_T_copyFrom_118 : decode b_T_copyFrom 118 = .ok (.bipush 40, 2) := by decide +kernel
theorem d_T_copyFrom_120 : decode b_T_copyFrom 120 = .ok (.invokestatic 52, 3) := by decide +kernel
theorem d_T_copyFrom_123 : decode b_T_copyFrom 123 = .ok (.aload_n 1, 1) := by decide +kernel
theorem d_T_copyFrom_124 : decode b_T_copyFrom 124 = .ok (.getfield 49, 3) := by decide +kernel
theorem d_T_copyFrom_127 : decode b_T_copyFrom 127 = .ok (.iconst 0, 1) := by decide +kernel
theorem d_T_copyFrom_128 : decode b_T_copyFrom 128 = .ok (.aload_n 0, 1) := by decide +kernel
theorem d_T_copyFrom_129 : decode b_T_copyFrom 129 = .ok (.getfield 49, 3) := by decide +kernel
theorem d_T_copyFrom_132 : decode b_T_copyFrom 132 = .ok (.iconst 0, 1) := by decide +kernel
theorem d_T_copyFrom_133 : decode b_T_copyFrom 133 = .ok (.bipush 40, 2) := by decide +kernel
theorem d_T_copyFrom_135 : decode b_T_copyFrom 135 = .ok (.invokestatic 52, 3) := by decide +kernel
theorem d_T_copyFrom_138 : decode b_T_copyFrom 138 = .ok (.return_, 1) := by decide +kernel
theorem d_T_setFeet_0 : decode b_T_setFeet 0 = .ok (.iload_n 1, 1) := by decide +kernel
theorem d_T_setFeet_1 : decode b_T_setFeet 1 = .ok (.bipush 100, 2) := by decide +kernel
theorem d_T_setFeet_3 : decode b_T_setFeet 3 = .ok (.if_icmp .lt 10, 3) := by decide +kernel
theorem d_T_setFeet_6 : decode b_T_setFeet 6 = .ok (.iload_n 1, 1) := by decide +kernel
theorem d_T_setFeet_7 : decode b_T_setFeet 7 = .ok (.sipush 2000, 3) := by decide +kernel
theorem d_T_setFeet_10 : decode b_T_setFeet 10 = .ok (.if_icmp .le 6, 3) := by decide +kernel
theorem d_T_setFeet_13 : decode b_T_setFeet 13 = .ok (.bipush (-2), 2) := by decide +kernel
theorem d_T_setFeet_15 : decode b_T_setFeet 15 = .ok (.ireturn, 1) := by decide +kernel
theorem d_T_setFeet_16 : decode b_T_setFeet 16 = .ok (.aload_n 0, 1) := by decide +kernel
theorem d_T_setFeet_17 : decode b_T_setFeet 17 = .ok (.invokevirtual 58, 3) := by decide +kernel
theorem d_T_setFeet_20 : decode b_T_setFeet 20 = .ok (.ifCond .gt 10, 3) := by decide +kernel
theorem d_T_setFeet_23 : decode b_T_setFeet 23 = .ok (.aload_n 0, 1) := by decide +kernel
theorem d_T_setFeet_24 : decode b_T_setFeet 24 = .ok (.getfield 24, 3) := by decide +kernel
theorem d_T_setFeet_27 : decode b_T_setFeet 27 = .ok (.ifCond .le 6, 3) := by decide +kernel
theorem d_T_setFeet_30 : decode b_T_setFeet 30 = .ok (.bipush (-5), 2) := by decide +kernel
theorem d_T_setFeet_32 : decode b_T_setFeet 32 = .ok (.ireturn, 1) := by decide +kernel
theorem d_T_setFeet_33 : decode b_T_setFeet 33 = .ok (.aload_n 0, 1) := by decide +kernel
theorem d_T_setFeet_34 : decode b_T_setFeet 34 = .ok (.getfield 9, 3) := by decide +kernel
theorem d_T_setFeet_37 : decode b_T_setFeet 37 = .ok (.istore_n 2, 1) := by decide +kernel
theorem d_T_setFeet_38 : decode b_T_setFeet 38 = .ok (.aload_n 0, 1) := by decide +kernel
theorem d_T_setFeet_39 : decode b_T_setFeet 39 = .ok (.iload_n 1, 1) := by decide +kernel
theorem d_T_setFeet_40 : decode b_T_setFeet 40 = .ok (.putfield 9, 3) := by decide +kernel
theorem d_T_setFeet_43 : decode b_T_setFeet 43 = .ok (.aload_n 0, 1) := by decide +kernel
theorem d_T_setFeet_44 : decode b_T_setFeet 44 = .ok (.aload_n 0, 1) := by decide +kernel
theorem d_T_setFeet_45 : decode b_T_setFeet 45 = .ok (.getfield 21, 3) := by decide +kernel
theorem d_T_setFeet_48 : decode b_T_setFeet 48 = .ok (.aload_n 0, 1) := by decide +kernel
theorem d_T_setFeet_49 : decode b_T_setFeet 49 = .ok (.getfield 9, 3) := by decide +kernel
theorem d_T_setFeet_52 : decode b_T_setFeet 52 = .ok (.invokestatic 62, 3) := by decide +kernel
theorem d_T_setFeet_55 : decode b_T_setFeet 55 = .ok (.putfield 21, 3) := by decide +kernel
theorem d_T_setFeet_58 : decode b_T_setFeet 58 = .ok (.iload_n 2, 1) := by decide +kernel
theorem d_T_setFeet_59 : decode b_T_setFeet 59 = .ok (.ireturn, 1) := by decide +kernel
theorem d_T_setGapAndMark_0 : decode b_T_setGapAndMark 0 = .ok (.iload_n 1, 1) := by decide +kernel
theorem d_T_setGapAndMark_1 : decode b_T_setGapAndMark 1 = .ok (.iconst 1, 1) := by decide +kernel
theorem d_T_setGapAndMark_2 : decode b_T_setGapAndMark 2 = .ok (.if_icmp .lt 20, 3) := by decide +kernel
theorem d_T_setGapAndMark_5 : decode b_T_setGapAndMark 5 = .ok (.iload_n 1, 1) := by decide +kernel
theorem d_T_setGapAndMark_6 : decode b_T_setGapAndMark 6 = .ok (.bipush 99, 2) := by decide +kernel
theorem d_T_setGapAndMark_8 : decode b_T_setGapAndMark 8 = .ok (.if_icmp .gt 14, 3) := by decide +kernel
theorem d_T_setGapAndMark_11 : decode b_T_setGapAndMark 11 = .ok (.iload_n 2, 1) := by decide +kernel
theorem d_T_setGapAndMark_12 : decode b_T_setGapAndMark 12 = .ok (.iconst 1, 1) := by decide +kernel
theorem d_T_setGapAndMark_13 : decode b_T_setGapAndMark 13 = .ok (.if_icmp .lt 9, 3) := by decide +kernel
theorem d_T_setGapAndMark_16 : decode b_T_setGapAndMark 16 = .ok (.iload_n 2, 1) := by decide +kernel
theorem d_T_setGapAndMark_17 : decode b_T_setGapAndMark 17 = .ok (.bipush 9, 2) := by decide +kernel
theorem d_T_setGapAndMark_19 : decode b_T_setGapAndMark 19 = .ok (.if_icmp .le 6, 3) := by decide +kernel
theorem d_T_setGapAndMark_22 : decode b_T_setGapAndMark 22 = .ok (.bipush (-2), 2) := by decide +kernel
theorem d_T_setGapAndMark_24 : decode b_T_setGapAndMark 24 = .ok (.ireturn, 1) := by decide +kernel
theorem d_T_setGapAndMark_25 : decode b_T_setGapAndMark 25 = .ok (.aload_n 0, 1) := by decide +kernel
theorem d_T_setGapAndMark_26 : decode b_T_setGapAndMark 26 = .ok (.invokevirtual 68, 3) := by decide +kernel
theorem d_T_setGapAndMark_29 : decode b_T_setGapAndMark 29 = .ok (.iload_n 1, 1) := by decide +kernel
theorem d_T_setGapAndMark_30 : decode b_T_setGapAndMark 30 = .ok (.if_icmp .ge 6, 3) := by decide +kernel
theorem d_T_setGapAndMark_33 : decode b_T_setGapAndMark 33 = .ok (.bipush (-5), 2) := by decide +kernel
theorem d_T_setGapAndMark_35 : decode b_T_setGapAndMark 35 = .ok (.ireturn, 1) := by decide +kernel
theorem d_T_setGapAndMark_36 : decode b_T_setGapAndMark 36 = .ok (.aload_n 0, 1) := by decide +kernel
theorem d_T_setGapAndMark_37 : decode b_T_setGapAndMark 37 = .ok (.getfield 15, 3) := by decide +kernel
theorem d_T_setGapAndMark_40 : decode b_T_setGapAndMark 40 = .ok (.bipush 100, 2) := by decide +kernel
theorem d_T_setGapAndMark_42 : decode b_T_setGapAndMark 42 = .ok (.aload_n 0, 1) := by decide +kernel
theorem d_T_setGapAndMark_43 : decode b_T_setGapAndMark 43 = .ok (.getfield 18, 3) := by decide +kernel
theorem d_T_setGapAndMark_46 : decode b_T_setGapAndMark 46 = .ok (.imul, 1) := by decide +kernel
theorem d_T_setGapAndMark_47 : decode b_T_setGapAndMark 47 = .ok (.iadd, 1) := by decide +kernel
theorem d_T_setGapAndMark_48 : decode b_T_setGapAndMark 48 = .ok (.istore_n 3, 1) := by decide +kernel
theorem d_T_setGapAndMark_49 : decode b_T_setGapAndMark 49 = .ok (.aload_n 0, 1) := by decide +kernel
theorem d_T_setGapAndMark_50 : decode b_T_setGapAndMark 50 = .ok (.iload_n 1, 1) := by decide +kernel
theorem d_T_setGapAndMark_51 : decode b_T_setGapAndMark 51 = .ok (.putfield 15, 3) := by decide +kernel
theorem d_T_setGapAndMark_54 : decode b_T_setGapAndMark 54 = .ok (.aload_n 0, 1) := by decide +kernel
theorem d_T_setGapAndMark_55 : decode b_T_setGapAndMark 55 = .ok (.iload_n 2, 1) := by decide +kernel
theorem d_T_setGapAndMark_56 : decode b_T_setGapAndMark 56 = .ok (.putfield 18, 3) := by decide +kernel
theorem d_T_setGapAndMark_59 : decode b_T_setGapAndMark 59 = .ok (.iload_n 3, 1) := by decide +kernel
theorem d_T_setGapAndMark_60 : decode b_T_setGapAndMark 60 = .ok (.ireturn, 1) := by decide +kernel
theorem d_T_addBlock_0 : decode b_T_addBlock 0 = .ok (.aload_n 0, 1) := by decide +kernel
theorem d_T_addBlock_1 : decode b_T_addBlock 1 = .ok (.iload_n 1, 1) := by decide +kernel
theorem d_T_addBlock_2 : decode b_T_addBlock 2 = .ok (.invokevirtual 71, 3) := by decide +kernel
theorem d_T_addBlock_5 : decode b_T_addBlock 5 = .ok (.ifCond .ne 5, 3) := by decide +kernel
theorem d_T_addBlock_8 : decode b_T_addBlock 8 = .ok (.iconst (-1), 1) := by decide +kernel
theorem d_T_addBlock_9 : decode b_T_addBlock 9 = .ok (.ireturn, 1) := by decide +kernel
theorem d_T_addBlock_10 : decode b_T_addBlock 10 = .ok (.iload_n 2, 1) := by decide +kernel
theorem d_T_addBlock_11 : decode b_T_addBlock 11 = .ok (.iconst 1, 1) := by decide +kernel
theorem d_T_addBlock_12 : decode b_T_addBlock 12 = .ok (.if_icmp .lt 20, 3) := by decide +kernel
theorem d_T_addBlock_15 : decode b_T_addBlock 15 = .ok (.iload_n 2, 1) := by decide +kernel
theorem d_T_addBlock_16 : decode b_T_addBlock 16 = .ok (.bipush 99, 2) := by decide +kernel
theorem d_T_addBlock_18 : decode b_T_addBlock 18 = .ok (.if_icmp .gt 14, 3) := by decide +kernel
theorem d_T_addBlock_21 : decode b_T_addBlock 21 = .ok (.iload_n 3, 1) := by decide +kernel
theorem d_T_addBlock_22 : decode b_T_addBlock 22 = .ok (.ifCond .lt 10, 3) := by decide +kernel
theorem d_T_addBlock_25 : decode b_T_addBlock 25 = .ok (.iload_n 3, 1) := by decide +kernel
theorem d_T_addBlock_26 : decode b_T_addBlock 26 = .ok (.sipush 9999, 3) := by decide +kernel
theorem d_T_addBlock_29 : decode b_T_addBlock 29 = .ok (.if_icmp .le 6, 3) := by decide +kernel
theorem d_T_addBlock_32 : decode b_T_addBlock 32 = .ok (.bipush (-2), 2) := by decide +kernel
theorem d_T_addBlock_34 : decode b_T_addBlock 34 = .ok (.ireturn, 1) := by decide +kernel
theorem d_T_addBlock_35 : decode b_T_addBlock 35 = .ok (.aload_n 0, 1) := by decide +kernel
theorem d_T_addBlock_36 : decode b_T_addBlock 36 = .ok (.getfield 36, 3) := by decide +kernel
theorem d_T_addBlock_39 : decode b_T_addBlock 39 = .ok (.iload_n 1, 1) := by decide +kernel
theorem d_T_addBlock_40 : decode b_T_addBlock 40 = .ok (.iaload, 1) := by decide +kernel
theorem d_T_addBlock_41 : decode b_T_addBlock 41 = .ok (.bipush 20, 2) := by decide +kernel
theorem d_T_addBlock_43 : decode b_T_addBlock 43 = .ok (.if_icmp .lt 6, 3) := by decide +kernel
theorem d_T_addBlock_46 : decode b_T_addBlock 46 = .ok (.bipush (-4), 2) := by decide +kernel
theorem d_T_addBlock_48 : decode b_T_addBlock 48 = .ok (.ireturn, 1) := by decide +kernel
theorem d_T_addBlock_49 : decode b_T_addBlock 49 = .ok (.aload_n 0, 1) := by decide +kernel
theorem d_T_addBlock_50 : decode b_T_addBlock 50 = .ok (.invokevirtual 68, 3) := by decide +kernel
theorem d_T_addBlock_53 : decode b_T_addBlock 53 = .ok (.iload_n 2, 1) := by decide +kernel
theorem d_T_addBlock_54 : decode b_T_addBlock 54 = .ok (.iconst 2, 1) := by decide +kernel
theorem d_T_addBlock_55 : decode b_T_addBlock 55 = .ok (.aload_n 0, 1) := by decide +kernel
theorem d_T_addBlock_56 : decode b_T_addBlock 56 = .ok (.getfield 18, 3) := by decide +kernel
theorem d_T_addBlock_59 : decode b_T_addBlock 59 = .ok (.imul, 1) := by decide +kernel
theorem d_T_addBlock_60 : decode b_T_addBlock 60 = .ok (.iadd, 1) := by decide +kernel
theorem d_T_addBlock_61 : decode b_T_addBlock 61 = .ok (.isub, 1) := by decide +kernel
theorem d_T_addBlock_62 : decode b_T_addBlock 62 = .ok (.aload_n 0, 1) := by decide +kernel
theorem d_T_addBlock_63 : decode b_T_addBlock 63 = .ok (.getfield 15, 3) := by decide +kernel
theorem d_T_addBlock_66 : decode b_T_addBlock 66 = .ok (.if_icmp .ge 6, 3) := by decide +kernel
theorem d_T_addBlock_69 : decode b_T_addBlock 69 = .ok (.bipush (-5), 2) := by decide +kernel
theorem d_T_addBlock_71 : decode b_T_addBlock 71 = .ok (.ireturn, 1) := by decide +kernel
theorem d_T_addBlock_72 : decode b_T_addBlock 72 = .ok (.aload_n 0, 1) := by decide +kernel
theorem d_T_addBlock_73 : decode b_T_addBlock 73 = .ok (.aload_n 0, 1) := by decide +kernel
theorem d_T_addBlock_74 : decode b_T_addBlock 74 = .ok (.iload_n 1, 1) := by decide +kernel
theorem d_T_addBlock_75 : decode b_T_addBlock 75 = .ok (.invokevirtual 75, 3) := by decide +kernel
theorem d_T_addBlock_78 : decode b_T_addBlock 78 = .ok (.invokevirtual 79, 3) := by decide +kernel
theorem d_T_addBlock_81 : decode b_T_addBlock 81 = .ok (.pop, 1) := by decide +kernel
theorem d_T_addBlock_82 : decode b_T_addBlock 82 = .ok (.aload_n 0, 1) := by decide +kernel
theorem d_T_addBlock_83 : decode b_T_addBlock 83 = .ok (.getfield 36, 3) := by decide +kernel
theorem d_T_addBlock_86 : decode b_T_addBlock 86 = .ok (.iload_n 1, 1) := by decide +kernel
theorem d_T_addBlock_87 : decode b_T_addBlock 87 = .ok (.iaload, 1) := by decide +kernel
theorem d_T_addBlock_88 : decode b_T_addBlock 88 = .ok (.istore 4, 2) := by decide +kernel
theorem d_T_addBlock_90 : decode b_T_addBlock 90 = .ok (.aload_n 0, 1) := by decide +kernel
theorem d_T_addBlock_91 : decode b_T_addBlock 91 = .ok (.iload_n 1, 1) := by decide +kernel
theorem d_T_addBlock_92 : decode b_T_addBlock 92 = .ok (.iload 4, 2) := by decide +kernel
theorem d_T_addBlock_94 : decode b_T_addBlock 94 = .ok (.invokevirtual 82, 3) := by decide +kernel
theorem d_T_addBlock_97 : decode b_T_addBlock 97 = .ok (.istore 5, 2) := by decide +kernel
theorem d_T_addBlock_99 : decode b_T_addBlock 99 = .ok (.aload_n 0, 1) := by decide +kernel
theorem d_T_addBlock_100 : decode b_T_addBlock 100 = .ok (.getfield 40, 3) := by decide +kernel
theorem d_T_addBlock_103 : decode b_T_addBlock 103 = .ok (.iload 5, 2) := by decide +kernel
theorem d_T_addBlock_105 : decode b_T_addBlock 105 = .ok (.iload_n 2, 1) := by decide +kernel
theorem d_T_addBlock_106 : decode b_T_addBlock 106 = .ok (.iastore, 1) := by decide +kernel
theorem d_T_addBlock_107 : decode b_T_addBlock 107 = .ok (.aload_n 0, 1) := by decide +kernel
theorem d_T_addBlock_108 : decode b_T_addBlock 108 = .ok (.getfield 43, 3) := by decide +kernel
theorem d_T_addBlock_111 : decode b_T_addBlock 111 = .ok (.iload 5, 2) := by decide +kernel
theorem d_T_addBlock_113 : decode b_T_addBlock 113 = .ok (.iload_n 3, 1) := by decide +kernel
theorem d_T_addBlock_114 : decode b_T_addBlock 114 = .ok (.iastore, 1) := by decide +kernel
theorem d_T_addBlock_115 : decode b_T_addBlock 115 = .ok (.aload_n 0, 1) := by decide +kernel
theorem d_T_addBlock_116 : decode b_T_addBlock 116 = .ok (.getfield 46, 3) := by decide +kernel
theorem d_T_addBlock_119 : decode b_T_addBlock 119 = .ok (.iload 5, 2) := by decide +kernel
theorem d_T_addBlock_121 : decode b_T_addBlock 121 = .ok (.aload_n 0, 1) := by decide +kernel
theorem d_T_addBlock_122 : decode b_T_addBlock 122 = .ok (.getfield 18, 3) := by decide +kernel
theorem d_T_addBlock_125 : decode b_T_addBlock 125 = .ok (.iastore, 1) := by decide +kernel
theorem d_T_addBlock_126 : decode b_T_addBlock 126 = .ok (.aload_n 0, 1) := by decide +kernel
theorem d_T_addBlock_127 : decode b_T_addBlock 127 = .ok (.getfield 49, 3) := by decide +kernel
theorem d_T_addBlock_130 : decode b_T_addBlock 130 = .ok (.iload 5, 2) := by decide +kernel
theorem d_T_addBlock_132 : decode b_T_addBlock 132 = .ok (.iconst 0, 1) := by decide +kernel
theorem d_T_addBlock_133 : decode b_T_addBlock 133 = .ok (.iastore, 1) := by decide +kernel
theorem d_T_addBlock_134 : decode b_T_addBlock 134 = .ok (.aload_n 0, 1) := by decide +kernel
theorem d_T_addBlock_135 : decode b_T_addBlock 135 = .ok (.getfield 36, 3) := by decide +kernel
theorem d_T_addBlock_138 : decode b_T_addBlock 138 = .ok (.iload_n 1, 1) := by decide +kernel
theorem d_T_addBlock_139 : decode b_T_addBlock 139 = .ok (.dup2, 1) := by decide +kernel
theorem d_T_addBlock_140 : decode b_T_addBlock 140 = .ok (.iaload, 1) := by decide +kernel
theorem d_T_addBlock_141 : decode b_T_addBlock 141 = .ok (.iconst 1, 1) := by decide +kernel
theorem d_T_addBlock_142 : decode b_T_addBlock 142 = .ok (.iadd, 1) := by decide +kernel
theorem d_T_addBlock_143 : decode b_T_addBlock 143 = .ok (.iastore, 1) := by decide +kernel
theorem d_T_addBlock_144 : decode b_T_addBlock 144 = .ok (.aload_n 0, 1) := by decide +kernel
theorem d_T_addBlock_145 : decode b_T_addBlock 145 = .ok (.aload_n 0, 1) := by decide +kernel
theorem d_T_addBlock_146 : decode b_T_addBlock 146 = .ok (.iload_n 1, 1) := by decide +kernel
theorem d_T_addBlock_147 : decode b_T_addBlock 147 = .ok (.invokevirtual 75, 3) := by decide +kernel
theorem d_T_addBlock_150 : decode b_T_addBlock 150 = .ok (.invokevirtual 79, 3) := by decide +kernel
theorem d_T_addBlock_153 : decode b_T_addBlock 153 = .ok (.pop, 1) := by decide +kernel
theorem d_T_addBlock_154 : decode b_T_addBlock 154 = .ok (.iload 4, 2) := by decide +kernel
theorem d_T_addBlock_156 : decode b_T_addBlock 156 = .ok (.ireturn, 1) := by decide +kernel
theorem d_T_keepBlocks_0 : decode b_T_keepBlocks 0 = .ok (.aload_n 0, 1) := by decide +kernel
theorem d_T_keepBlocks_1 : decode b_T_keepBlocks 1 = .ok (.iload_n 1, 1) := by decide +kernel
theorem d_T_keepBlocks_2 : decode b_T_keepBlocks 2 = .ok (.invokevirtual 71, 3) := by decide +kernel
theorem d_T_keepBlocks_5 : decode b_T_keepBlocks 5 = .ok (.ifCond .ne 5, 3) := by decide +kernel
theorem d_T_keepBlocks_8 : decode b_T_keepBlocks 8 = .ok (.iconst (-1), 1) := by decide +kernel
theorem d_T_keepBlocks_9 : decode b_T_keepBlocks 9 = .ok (.ireturn, 1) := by decide +kernel
theorem d_T_keepBlocks_10 : decode b_T_keepBlocks 10 = .ok (.iload_n 2, 1) := by decide +kernel
theorem d_T_keepBlocks_11 : decode b_T_keepBlocks 11 = .ok (.ifCond .ge 6, 3) := by decide +kernel
theorem d_T_keepBlocks_14 : decode b_T_keepBlocks 14 = .ok (.bipush (-2), 2) := by decide +kernel
theorem d_T_keepBlocks_16 : decode b_T_keepBlocks 16 = .ok (.ireturn, 1) := by decide +kernel
theorem d_T_keepBlocks_17 : decode b_T_keepBlocks 17 = .ok (.iload_n 2, 1) := by decide +kernel
theorem d_T_keepBlocks_18 : decode b_T_keepBlocks 18 = .ok (.aload_n 0, 1) := by decide +kernel
theorem d_T_keepBlocks_19 : decode b_T_keepBlocks 19 = .ok (.getfield 36, 3) := by decide +kernel
theorem d_T_keepBlocks_22 : decode b_T_keepBlocks 22 = .ok (.iload_n 1, 1) := by decide +kernel
theorem d_T_keepBlocks_23 : decode b_T_keepBlocks 23 = .ok (.iaload, 1) := by decide +kernel
theorem d_T_keepBlocks_24 : decode b_T_keepBlocks 24 = .ok (.if_icmp .le 6, 3) := by decide +kernel
theorem d_T_keepBlocks_27 : decode b_T_keepBlocks 27 = .ok (.bipush (-5), 2) := by decide +kernel
theorem d_T_keepBlocks_29 : decode b_T_keepBlocks 29 = .ok (.ireturn, 1) := by decide +kernel
theorem d_T_keepBlocks_30 : decode b_T_keepBlocks 30 = .ok (.aload_n 0, 1) := by decide +kernel
theorem d_T_keepBlocks_31 : decode b_T_keepBlocks 31 = .ok (.getfield 36, 3) := by decide +kernel
theorem d_T_keepBlocks_34 : decode b_T_keepBlocks 34 = .ok (.iload_n 1, 1) := by decide +kernel
theorem d_T_keepBlocks_35 : decode b_T_keepBlocks 35 = .ok (.iaload, 1) := by decide +kernel
theorem d_T_keepBlocks_36 : decode b_T_keepBlocks 36 = .ok (.iload_n 2, 1) := by decide +kernel
theorem d_T_keepBlocks_37 : decode b_T_keepBlocks 37 = .ok (.isub, 1) := by decide +kernel
theorem d_T_keepBlocks_38 : decode b_T_keepBlocks 38 = .ok (.istore_n 3, 1) := by decide +kernel
theorem d_T_keepBlocks_39 : decode b_T_keepBlocks 39 = .ok (.aload_n 0, 1) := by decide +kernel
theorem d_T_keepBlocks_40 : decode b_T_keepBlocks 40 = .ok (.getfield 36, 3) := by decide +kernel
theorem d_T_keepBlocks_43 : decode b_T_keepBlocks 43 = .ok (.iload_n 1, 1) := by decide +kernel
theorem d_T_keepBlocks_44 : decode b_T_keepBlocks 44 = .ok (.iload_n 2, 1) := by decide +kernel
theorem d_T_keepBlocks_45 : decode b_T_keepBlocks 45 = .ok (.iastore, 1) := by decide +kernel
theorem d_T_keepBlocks_46 : decode b_T_keepBlocks 46 = .ok (.iload_n 3, 1) := by decide +kernel
theorem d_T_keepBlocks_47 : decode b_T_keepBlocks 47 = .ok (.ireturn, 1) := by decide +kernel
theorem d_T_moveHead_0 : decode b_T_moveHead 0 = .ok (.iload_n 1, 1) := by decide +kernel
theorem d_T_moveHead_1 : decode b_T_moveHead 1 = .ok (.ifCond .lt 11, 3) := by decide +kernel
theorem d_T_moveHead_4 : decode b_T_moveHead 4 = .ok (.iload_n 1, 1) := by decide +kernel
theorem d_T_moveHead_5 : decode b_T_moveHead 5 = .ok (.aload_n 0, 1) := by decide +kernel
theorem d_T_moveHead_6 : decode b_T_moveHead 6 = .ok (.getfield 9, 3) := by decide +kernel
theorem d_T_moveHead_9 : decode b_T_moveHead 9 = .ok (.if_icmp .le 6, 3) := by decide +kernel
theorem d_T_moveHead_12 : decode b_T_moveHead 12 = .ok (.bipush (-2), 2) := by decide +kernel
theorem d_T_moveHead_14 : decode b_T_moveHead 14 = .ok (.ireturn, 1) := by decide +kernel
theorem d_T_moveHead_15 : decode b_T_moveHead 15 = .ok (.aload_n 0, 1) := by decide +kernel
theorem d_T_moveHead_16 : decode b_T_moveHead 16 = .ok (.iload_n 1, 1) := by decide +kernel
theorem d_T_moveHead_17 : decode b_T_moveHead 17 = .ok (.invokevirtual 79, 3) := by decide +kernel
theorem d_T_moveHead_20 : decode b_T_moveHead 20 = .ok (.ireturn, 1) := by decide +kernel
theorem d_T_goToNearerEnd_0 : decode b_T_goToNearerEnd 0 = .ok (.aload_n 0, 1) := by decide +kernel
theorem d_T_goToNearerEnd_1 : decode b_T_goToNearerEnd 1 = .ok (.aload_n 0, 1) := by decide +kernel
theorem d_T_goToNearerEnd_2 : decode b_T_goToNearerEnd 2 = .ok (.getfield 21, 3) := by decide +kernel
theorem d_T_goToNearerEnd_5 : decode b_T_goToNearerEnd 5 = .ok (.aload_n 0, 1) := by decide +kernel
theorem d_T_goToNearerEnd_6 : decode b_T_goToNearerEnd 6 = .ok (.getfield 9, 3) := by decide +kernel
theorem d_T_goToNearerEnd_9 : decode b_T_goToNearerEnd 9 = .ok (.aload_n 0, 1) := by decide +kernel
theorem d_T_goToNearerEnd_10 : decode b_T_goToNearerEnd 10 = .ok (.getfield 21, 3) := by decide +kernel
theorem d_T_goToNearerEnd_13 : decode b_T_goToNearerEnd 13 = .ok (.isub, 1) := by decide +kernel
theorem d_T_goToNearerEnd_14 : decode b_T_goToNearerEnd 14 = .ok (.if_icmp .gt 7, 3) := by decide +kernel
theorem d_T_goToNearerEnd_17 : decode b_T_goToNearerEnd 17 = .ok (.iconst 0, 1) := by decide +kernel
theorem d_T_goToNearerEnd_18 : decode b_T_goToNearerEnd 18 = .ok (.goto 7, 3) := by decide +kernel
theorem d_T_goToNearerEnd_21 : decode b_T_goToNearerEnd 21 = .ok (.aload_n 0, 1) := by decide +kernel
theorem d_T_goToNearerEnd_22 : decode b_T_goToNearerEnd 22 = .ok (.getfield 9, 3) := by decide +kernel
theorem d_T_goToNearerEnd_25 : decode b_T_goToNearerEnd 25 = .ok (.invokevirtual 79, 3) := by decide +kernel
theorem d_T_goToNearerEnd_28 : decode b_T_goToNearerEnd 28 = .ok (.pop, 1) := by decide +kernel
theorem d_T_goToNearerEnd_29 : decode b_T_goToNearerEnd 29 = .ok (.aload_n 0, 1) := by decide +kernel
theorem d_T_goToNearerEnd_30 : decode b_T_goToNearerEnd 30 = .ok (.getfield 21, 3) := by decide +kernel
theorem d_T_goToNearerEnd_33 : decode b_T_goToNearerEnd 33 = .ok (.ireturn, 1) := by decide +kernel
theorem d_T_passBlock_0 : decode b_T_passBlock 0 = .ok (.aload_n 0, 1) := by decide +kernel
theorem d_T_passBlock_1 : decode b_T_passBlock 1 = .ok (.iload_n 1, 1) := by decide +kernel
theorem d_T_passBlock_2 : decode b_T_passBlock 2 = .ok (.iload_n 2, 1) := by decide +kernel
theorem d_T_passBlock_3 : decode b_T_passBlock 3 = .ok (.invokevirtual 85, 3) := by decide +kernel
theorem d_T_passBlock_6 : decode b_T_passBlock 6 = .ok (.ifCond .ne 5, 3) := by decide +kernel
theorem d_T_passBlock_9 : decode b_T_passBlock 9 = .ok (.iconst (-1), 1) := by decide +kernel
theorem d_T_passBlock_10 : decode b_T_passBlock 10 = .ok (.ireturn, 1) := by decide +kernel
theorem d_T_passBlock_11 : decode b_T_passBlock 11 = .ok (.iload_n 3, 1) := by decide +kernel
theorem d_T_passBlock_12 : decode b_T_passBlock 12 = .ok (.ifCond .eq 11, 3) := by decide +kernel
theorem d_T_passBlock_15 : decode b_T_passBlock 15 = .ok (.iload_n 3, 1) := by decide +kernel
theorem d_T_passBlock_16 : decode b_T_passBlock 16 = .ok (.iconst 1, 1) := by decide +kernel
theorem d_T_passBlock_17 : decode b_T_passBlock 17 = .ok (.if_icmp .eq 6, 3) := by decide +kernel
theorem d_T_passBlock_20 : decode b_T_passBlock 20 = .ok (.bipush (-2), 2) := by decide +kernel
theorem d_T_passBlock_22 : decode b_T_passBlock 22 = .ok (.ireturn, 1) := by decide +kernel
theorem d_T_passBlock_23 : decode b_T_passBlock 23 = .ok (.aload_n 0, 1) := by decide +kernel
theorem d_T_passBlock_24 : decode b_T_passBlock 24 = .ok (.iload_n 1, 1) := by decide +kernel
theorem d_T_passBlock_25 : decode b_T_passBlock 25 = .ok (.iload_n 2, 1) := by decide +kernel
theorem d_T_passBlock_26 : decode b_T_passBlock 26 = .ok (.invokevirtual 82, 3) := by decide +kernel
theorem d_T_passBlock_29 : decode b_T_passBlock 29 = .ok (.istore 4, 2) := by decide +kernel
theorem d_T_passBlock_31 : decode b_T_passBlock 31 = .ok (.aload_n 0, 1) := by decide +kernel
theorem d_T_passBlock_32 : decode b_T_passBlock 32 = .ok (.aload_n 0, 1) := by decide +kernel
theorem d_T_passBlock_33 : decode b_T_passBlock 33 = .ok (.iload_n 1, 1) := by decide +kernel
theorem d_T_passBlock_34 : decode b_T_passBlock 34 = .ok (.iload_n 2, 1) := by decide +kernel
theorem d_T_passBlock_35 : decode b_T_passBlock 35 = .ok (.iload_n 3, 1) := by decide +kernel
theorem d_T_passBlock_36 : decode b_T_passBlock 36 = .ok (.invokevirtual 89, 3) := by decide +kernel
theorem d_T_passBlock_39 : decode b_T_passBlock 39 = .ok (.invokevirtual 79, 3) := by decide +kernel
theorem d_T_passBlock_42 : decode b_T_passBlock 42 = .ok (.pop, 1) := by decide +kernel
theorem d_T_passBlock_43 : decode b_T_passBlock 43 = .ok (.aload_n 0, 1) := by decide +kernel
theorem d_T_passBlock_44 : decode b_T_passBlock 44 = .ok (.aload_n 0, 1) := by decide +kernel
theorem d_T_passBlock_45 : decode b_T_passBlock 45 = .ok (.iload_n 1, 1) := by decide +kernel
theorem d_T_passBlock_46 : decode b_T_passBlock 46 = .ok (.iload_n 2, 1) := by decide +kernel
theorem d_T_passBlock_47 : decode b_T_passBlock 47 = .ok (.iconst 1, 1) := by decide +kernel
theorem d_T_passBlock_48 : decode b_T_passBlock 48 = .ok (.iload_n 3, 1) := by decide +kernel
theorem d_T_passBlock_49 : decode b_T_passBlock 49 = .ok (.isub, 1) := by decide +kernel
theorem d_T_passBlock_50 : decode b_T_passBlock 50 = .ok (.invokevirtual 89, 3) := by decide +kernel
theorem d_T_passBlock_53 : decode b_T_passBlock 53 = .ok (.invokevirtual 79, 3) := by decide +kernel
theorem d_T_passBlock_56 : decode b_T_passBlock 56 = .ok (.pop, 1) := by decide +kernel
theorem d_T_passBlock_57 : decode b_T_passBlock 57 = .ok (.aload_n 0, 1) := by decide +kernel
theorem d_T_passBlock_58 : decode b_T_passBlock 58 = .ok (.getfield 49, 3) := by decide +kernel
theorem d_T_passBlock_61 : decode b_T_passBlock 61 = .ok (.iload 4, 2) := by decide +kernel
theorem d_T_passBlock_63 : decode b_T_passBlock 63 = .ok (.dup2, 1) := by decide +kernel
theorem d_T_passBlock_64 : decode b_T_passBlock 64 = .ok (.iaload, 1) := by decide +kernel
theorem d_T_passBlock_65 : decode b_T_passBlock 65 = .ok (.iconst 1, 1) := by decide +kernel
theorem d_T_passBlock_66 : decode b_T_passBlock 66 = .ok (.iadd, 1) := by decide +kernel
theorem d_T_passBlock_67 : decode b_T_passBlock 67 = .ok (.iastore, 1) := by decide +kernel
theorem d_T_passBlock_68 : decode b_T_passBlock 68 = .ok (.aload_n 0, 1) := by decide +kernel
theorem d_T_passBlock_69 : decode b_T_passBlock 69 = .ok (.dup, 1) := by decide +kernel
theorem d_T_passBlock_70 : decode b_T_passBlock 70 = .ok (.getfield 33, 3) := by decide +kernel
theorem d_T_passBlock_73 : decode b_T_passBlock 73 = .ok (.iconst 1, 1) := by decide +kernel
theorem d_T_passBlock_74 : decode b_T_passBlock 74 = .ok (.iadd, 1) := by decide +kernel
theorem d_T_passBlock_75 : decode b_T_passBlock 75 = .ok (.putfield 33, 3) := by decide +kernel
theorem d_T_passBlock_78 : decode b_T_passBlock 78 = .ok (.aload_n 0, 1) := by decide +kernel
theorem d_T_passBlock_79 : decode b_T_passBlock 79 = .ok (.getfield 43, 3) := by decide +kernel
theorem d_T_passBlock_82 : decode b_T_passBlock 82 = .ok (.iload 4, 2) := by decide +kernel
theorem d_T_passBlock_84 : decode b_T_passBlock 84 = .ok (.iaload, 1) := by decide +kernel
theorem d_T_passBlock_85 : decode b_T_passBlock 85 = .ok (.iload_n 2, 1) := by decide +kernel
theorem d_T_passBlock_86 : decode b_T_passBlock 86 = .ok (.iadd, 1) := by decide +kernel
theorem d_T_passBlock_87 : decode b_T_passBlock 87 = .ok (.iload_n 3, 1) := by decide +kernel
theorem d_T_passBlock_88 : decode b_T_passBlock 88 = .ok (.iadd, 1) := by decide +kernel
theorem d_T_passBlock_89 : decode b_T_passBlock 89 = .ok (.bipush 10, 2) := by decide +kernel
theorem d_T_passBlock_91 : decode b_T_passBlock 91 = .ok (.irem, 1) := by decide +kernel
theorem d_T_passBlock_92 : decode b_T_passBlock 92 = .ok (.ireturn, 1) := by decide +kernel
theorem d_T_takeOut_0 : decode b_T_takeOut 0 = .ok (.iload_n 1, 1) := by decide +kernel
theorem d_T_takeOut_1 : decode b_T_takeOut 1 = .ok (.ifCond .lt 22, 3) := by decide +kernel
theorem d_T_takeOut_4 : decode b_T_takeOut 4 = .ok (.iload_n 1, 1) := by decide +kernel
theorem d_T_takeOut_5 : decode b_T_takeOut 5 = .ok (.aload_n 0, 1) := by decide +kernel
theorem d_T_takeOut_6 : decode b_T_takeOut 6 = .ok (.getfield 9, 3) := by decide +kernel
theorem d_T_takeOut_9 : decode b_T_takeOut 9 = .ok (.if_icmp .ge 14, 3) := by decide +kernel
theorem d_T_takeOut_12 : decode b_T_takeOut 12 = .ok (.iload_n 2, 1) := by decide +kernel
theorem d_T_takeOut_13 : decode b_T_takeOut 13 = .ok (.iconst 1, 1) := by decide +kernel
theorem d_T_takeOut_14 : decode b_T_takeOut 14 = .ok (.if_icmp .lt 9, 3) := by decide +kernel
theorem d_T_takeOut_17 : decode b_T_takeOut 17 = .ok (.iload_n 2, 1) := by decide +kernel
theorem d_T_takeOut_18 : decode b_T_takeOut 18 = .ok (.bipush 50, 2) := by decide +kernel
theorem d_T_takeOut_20 : decode b_T_takeOut 20 = .ok (.if_icmp .le 6, 3) := by decide +kernel
theorem d_T_takeOut_23 : decode b_T_takeOut 23 = .ok (.bipush (-2), 2) := by decide +kernel
theorem d_T_takeOut_25 : decode b_T_takeOut 25 = .ok (.ireturn, 1) := by decide +kernel
theorem d_T_takeOut_26 : decode b_T_takeOut 26 = .ok (.iload_n 2, 1) := by decide +kernel
theorem d_T_takeOut_27 : decode b_T_takeOut 27 = .ok (.iconst 1, 1) := by decide +kernel
theorem d_T_takeOut_28 : decode b_T_takeOut 28 = .ok (.iadd, 1) := by decide +kernel
theorem d_T_takeOut_29 : decode b_T_takeOut 29 = .ok (.istore_n 3, 1) := by decide +kernel
theorem d_T_takeOut_30 : decode b_T_takeOut 30 = .ok (.aload_n 0, 1) := by decide +kernel
theorem d_T_takeOut_31 : decode b_T_takeOut 31 = .ok (.iload_n 1, 1) := by decide +kernel
theorem d_T_takeOut_32 : decode b_T_takeOut 32 = .ok (.iload_n 1, 1) := by decide +kernel
theorem d_T_takeOut_33 : decode b_T_takeOut 33 = .ok (.iload_n 3, 1) := by decide +kernel
theorem d_T_takeOut_34 : decode b_T_takeOut 34 = .ok (.iadd, 1) := by decide +kernel
theorem d_T_takeOut_35 : decode b_T_takeOut 35 = .ok (.invokevirtual 93, 3) := by decide +kernel
theorem d_T_takeOut_38 : decode b_T_takeOut 38 = .ok (.istore 4, 2) := by decide +kernel
theorem d_T_takeOut_40 : decode b_T_takeOut 40 = .ok (.iload 4, 2) := by decide +kernel
theorem d_T_takeOut_42 : decode b_T_takeOut 42 = .ok (.ifCond .lt 20, 3) := by decide +kernel
theorem d_T_takeOut_45 : decode b_T_takeOut 45 = .ok (.aload_n 0, 1) := by decide +kernel
theorem d_T_takeOut_46 : decode b_T_takeOut 46 = .ok (.getfield 40, 3) := by decide +kernel
theorem d_T_takeOut_49 : decode b_T_takeOut 49 = .ok (.iload 4, 2) := by decide +kernel
theorem d_T_takeOut_51 : decode b_T_takeOut 51 = .ok (.iaload, 1) := by decide +kernel
theorem d_T_takeOut_52 : decode b_T_takeOut 52 = .ok (.iload_n 3, 1) := by decide +kernel
theorem d_T_takeOut_53 : decode b_T_takeOut 53 = .ok (.isub, 1) := by decide +kernel
theorem d_T_takeOut_54 : decode b_T_takeOut 54 = .ok (.iconst 1, 1) := by decide +kernel
theorem d_T_takeOut_55 : decode b_T_takeOut 55 = .ok (.if_icmp .lt 7, 3) := by decide +kernel
theorem d_T_takeOut_58 : decode b_T_takeOut 58 = .ok (.iconst 1, 1) := by decide +kernel
theorem d_T_takeOut_59 : decode b_T_takeOut 59 = .ok (.goto 4, 3) := by decide +kernel
theorem d_T_takeOut_62 : decode b_T_takeOut 62 = .ok (.iconst 0, 1) := by decide +kernel
theorem d_T_takeOut_63 : decode b_T_takeOut 63 = .ok (.istore 5, 2) := by decide +kernel
theorem d_T_takeOut_65 : decode b_T_takeOut 65 = .ok (.aload_n 0, 1) := by decide +kernel
theorem d_T_takeOut_66 : decode b_T_takeOut 66 = .ok (.iload_n 1, 1) := by decide +kernel
theorem d_T_takeOut_67 : decode b_T_takeOut 67 = .ok (.iload_n 1, 1) := by decide +kernel
theorem d_T_takeOut_68 : decode b_T_takeOut 68 = .ok (.iload_n 3, 1) := by decide +kernel
theorem d_T_takeOut_69 : decode b_T_takeOut 69 = .ok (.iadd, 1) := by decide +kernel
theorem d_T_takeOut_70 : decode b_T_takeOut 70 = .ok (.invokevirtual 96, 3) := by decide +kernel
theorem d_T_takeOut_73 : decode b_T_takeOut 73 = .ok (.ifCond .eq 20, 3) := by decide +kernel
theorem d_T_takeOut_76 : decode b_T_takeOut 76 = .ok (.aload_n 0, 1) := by decide +kernel
theorem d_T_takeOut_77 : decode b_T_takeOut 77 = .ok (.invokevirtual 68, 3) := by decide +kernel
theorem d_T_takeOut_80 : decode b_T_takeOut 80 = .ok (.iload_n 3, 1) := by decide +kernel
theorem d_T_takeOut_81 : decode b_T_takeOut 81 = .ok (.isub, 1) := by decide +kernel
theorem d_T_takeOut_82 : decode b_T_takeOut 82 = .ok (.aload_n 0, 1) := by decide +kernel
theorem d_T_takeOut_83 : decode b_T_takeOut 83 = .ok (.getfield 15, 3) := by decide +kernel
theorem d_T_takeOut_86 : decode b_T_takeOut 86 = .ok (.if_icmp .lt 7, 3) := by decide +kernel
theorem d_T_takeOut_89 : decode b_T_takeOut 89 = .ok (.iconst 1, 1) := by decide +kernel
theorem d_T_takeOut_90 : decode b_T_takeOut 90 = .ok (.goto 4, 3) := by decide +kernel
theorem d_T_takeOut_93 : decode b_T_takeOut 93 = .ok (.iconst 0, 1) := by decide +kernel
theorem d_T_takeOut_94 : decode b_T_takeOut 94 = .ok (.istore 6, 2) := by decide +kernel
theorem d_T_takeOut_96 : decode b_T_takeOut 96 = .ok (.iload 5, 2) := by decide +kernel
theorem d_T_takeOut_98 : decode b_T_takeOut 98 = .ok (.ifCond .ne 11, 3) := by decide +kernel
theorem d_T_takeOut_101 : decode b_T_takeOut 101 = .ok (.iload 6, 2) := by decide +kernel
theorem d_T_takeOut_103 : decode b_T_takeOut 103 = .ok (.ifCond .ne 6, 3) := by decide +kernel
theorem d_T_takeOut_106 : decode b_T_takeOut 106 = .ok (.bipush (-5), 2) := by decide +kernel
theorem d_T_takeOut_108 : decode b_T_takeOut 108 = .ok (.ireturn, 1) := by decide +kernel
theorem d_T_takeOut_109 : decode b_T_takeOut 109 = .ok (.aload_n 0, 1) := by decide +kernel
theorem d_T_takeOut_110 : decode b_T_takeOut 110 = .ok (.getfield 24, 3) := by decide +kernel
theorem d_T_takeOut_113 : decode b_T_takeOut 113 = .ok (.bipush 9, 2) := by decide +kernel
theorem d_T_takeOut_115 : decode b_T_takeOut 115 = .ok (.if_icmp .lt 6, 3) := by decide +kernel
theorem d_T_takeOut_118 : decode b_T_takeOut 118 = .ok (.bipush (-4), 2) := by decide +kernel
theorem d_T_takeOut_120 : decode b_T_takeOut 120 = .ok (.ireturn, 1) := by decide +kernel
theorem d_T_takeOut_121 : decode b_T_takeOut 121 = .ok (.iload 4, 2) := by decide +kernel
theorem d_T_takeOut_123 : decode b_T_takeOut 123 = .ok (.ifCond .lt 22, 3) := by decide +kernel
theorem d_T_takeOut_126 : decode b_T_takeOut 126 = .ok (.aload_n 0, 1) := by decide +kernel
theorem d_T_takeOut_127 : decode b_T_takeOut 127 = .ok (.getfield 40, 3) := by decide +kernel
theorem d_T_takeOut_130 : decode b_T_takeOut 130 = .ok (.iload 4, 2) := by decide +kernel
theorem d_T_takeOut_132 : decode b_T_takeOut 132 = .ok (.dup2, 1) := by decide +kernel
theorem d_T_takeOut_133 : decode b_T_takeOut 133 = .ok (.iaload, 1) := by decide +kernel
theorem d_T_takeOut_134 : decode b_T_takeOut 134 = .ok (.iload_n 3, 1) := by decide +kernel
theorem d_T_takeOut_135 : decode b_T_takeOut 135 = .ok (.isub, 1) := by decide +kernel
theorem d_T_takeOut_136 : decode b_T_takeOut 136 = .ok (.iastore, 1) := by decide +kernel
theorem d_T_takeOut_137 : decode b_T_takeOut 137 = .ok (.aload_n 0, 1) := by decide +kernel
theorem d_T_takeOut_138 : decode b_T_takeOut 138 = .ok (.getfield 43, 3) := by decide +kernel
theorem d_T_takeOut_141 : decode b_T_takeOut 141 = .ok (.iload 4, 2) := by decide +kernel
theorem d_T_takeOut_143 : decode b_T_takeOut 143 = .ok (.iconst 0, 1) := by decide +kernel
theorem d_T_takeOut_144 : decode b_T_takeOut 144 = .ok (.iastore, 1) := by decide +kernel
theorem d_T_takeOut_145 : decode b_T_takeOut 145 = .ok (.aload_n 0, 1) := by decide +kernel
theorem d_T_takeOut_146 : decode b_T_takeOut 146 = .ok (.dup, 1) := by decide +kernel
theorem d_T_takeOut_147 : decode b_T_takeOut 147 = .ok (.getfield 9, 3) := by decide +kernel
theorem d_T_takeOut_150 : decode b_T_takeOut 150 = .ok (.iload_n 3, 1) := by decide +kernel
theorem d_T_takeOut_151 : decode b_T_takeOut 151 = .ok (.isub, 1) := by decide +kernel
theorem d_T_takeOut_152 : decode b_T_takeOut 152 = .ok (.putfield 9, 3) := by decide +kernel
theorem d_T_takeOut_155 : decode b_T_takeOut 155 = .ok (.aload_n 0, 1) := by decide +kernel
theorem d_T_takeOut_156 : decode b_T_takeOut 156 = .ok (.dup, 1) := by decide +kernel
theorem d_T_takeOut_157 : decode b_T_takeOut 157 = .ok (.getfield 21, 3) := by decide +kernel
theorem d_T_takeOut_160 : decode b_T_takeOut 160 = .ok (.iconst 0, 1) := by decide +kernel
theorem d_T_takeOut_161 : decode b_T_takeOut 161 = .ok (.iload_n 3, 1) := by decide +kernel
theorem d_T_takeOut_162 : decode b_T_takeOut 162 = .ok (.aload_n 0, 1) := by decide +kernel
theorem d_T_takeOut_163 : decode b_T_takeOut 163 = .ok (.getfield 21, 3) := by decide +kernel
theorem d_T_takeOut_166 : decode b_T_takeOut 166 = .ok (.iload_n 1, 1) := by decide +kernel
theorem d_T_takeOut_167 : decode b_T_takeOut 167 = .ok (.isub, 1) := by decide +kernel
theorem d_T_takeOut_168 : decode b_T_takeOut 168 = .ok (.invokestatic 62, 3) := by decide +kernel
theorem d_T_takeOut_171 : decode b_T_takeOut 171 = .ok (.invokestatic 99, 3) := by decide +kernel
theorem d_T_takeOut_174 : decode b_T_takeOut 174 = .ok (.isub, 1) := by decide +kernel
theorem d_T_takeOut_175 : decode b_T_takeOut 175 = .ok (.putfield 21, 3) := by decide +kernel
theorem d_T_takeOut_178 : decode b_T_takeOut 178 = .ok (.aload_n 0, 1) := by decide +kernel
theorem d_T_takeOut_179 : decode b_T_takeOut 179 = .ok (.dup, 1) := by decide +kernel
theorem d_T_takeOut_180 : decode b_T_takeOut 180 = .ok (.getfield 24, 3) := by decide +kernel
theorem d_T_takeOut_183 : decode b_T_takeOut 183 = .ok (.iconst 1, 1) := by decide +kernel
theorem d_T_takeOut_184 : decode b_T_takeOut 184 = .ok (.iadd, 1) := by decide +kernel
theorem d_T_takeOut_185 : decode b_T_takeOut 185 = .ok (.putfield 24, 3) := by decide +kernel
theorem d_T_takeOut_188 : decode b_T_takeOut 188 = .ok (.aload_n 0, 1) := by decide +kernel
theorem d_T_takeOut_189 : decode b_T_takeOut 189 = .ok (.dup, 1) := by decide +kernel
theorem d_T_takeOut_190 : decode b_T_takeOut 190 = .ok (.getfield 27, 3) := by decide +kernel
theorem d_T_takeOut_193 : decode b_T_takeOut 193 = .ok (.iload_n 3, 1) := by decide +kernel
theorem d_T_takeOut_194 : decode b_T_takeOut 194 = .ok (.iadd, 1) := by decide +kernel
theorem d_T_takeOut_195 : decode b_T_takeOut 195 = .ok (.putfield 27, 3) := by decide +kernel
theorem d_T_takeOut_198 : decode b_T_takeOut 198 = .ok (.aload_n 0, 1) := by decide +kernel
theorem d_T_takeOut_199 : decode b_T_takeOut 199 = .ok (.getfield 9, 3) := by decide +kernel
theorem d_T_takeOut_202 : decode b_T_takeOut 202 = .ok (.ireturn, 1) := by decide +kernel
theorem d_T_travelTo_0 : decode b_T_travelTo 0 = .ok (.iload_n 1, 1) := by decide +kernel
theorem d_T_travelTo_1 : decode b_T_travelTo 1 = .ok (.aload_n 0, 1) := by decide +kernel
theorem d_T_travelTo_2 : decode b_T_travelTo 2 = .ok (.getfield 21, 3) := by decide +kernel
theorem d_T_travelTo_5 : decode b_T_travelTo 5 = .ok (.isub, 1) := by decide +kernel
theorem d_T_travelTo_6 : decode b_T_travelTo 6 = .ok (.invokestatic 102, 3) := by decide +kernel
theorem d_T_travelTo_9 : decode b_T_travelTo 9 = .ok (.istore_n 2, 1) := by decide +kernel
theorem d_T_travelTo_10 : decode b_T_travelTo 10 = .ok (.aload_n 0, 1) := by decide +kernel
theorem d_T_travelTo_11 : decode b_T_travelTo 11 = .ok (.aload_n 0, 1) := by decide +kernel
theorem d_T_travelTo_12 : decode b_T_travelTo 12 = .ok (.getfield 30, 3) := by decide +kernel
theorem d_T_travelTo_15 : decode b_T_travelTo 15 = .ok (.iload_n 2, 1) := by decide +kernel
theorem d_T_travelTo_16 : decode b_T_travelTo 16 = .ok (.iadd, 1) := by decide +kernel
theorem d_T_travelTo_17 : decode b_T_travelTo 17 = .ok (.ldc 105, 2) := by decide +kernel
theorem d_T_travelTo_19 : decode b_T_travelTo 19 = .ok (.irem, 1) := by decide +kernel
theorem d_T_travelTo_20 : decode b_T_travelTo 20 = .ok (.putfield 30, 3) := by decide +kernel
theorem d_T_travelTo_23 : decode b_T_travelTo 23 = .ok (.aload_n 0, 1) := by decide +kernel
theorem d_T_travelTo_24 : decode b_T_travelTo 24 = .ok (.iload_n 1, 1) := by decide +kernel
theorem d_T_travelTo_25 : decode b_T_travelTo 25 = .ok (.putfield 21, 3) := by decide +kernel
theorem d_T_travelTo_28 : decode b_T_travelTo 28 = .ok (.iload_n 2, 1) := by decide +kernel
theorem d_T_travelTo_29 : decode b_T_travelTo 29 = .ok (.ireturn, 1) := by decide +kernel
theorem d_T_aboutTape_0 : decode b_T_aboutTape 0 = .ok (.iload_n 1, 1) := by decide +kernel
theorem d_T_aboutTape_1 : decode b_T_aboutTape 1 = .ok (.tableswitch 105 0 9 #[55, 60, 65, 70, 75, 80, 85, 90, 95, 100], 55) := by decide +kernel
theorem d_T_aboutTape_56 : decode b_T_aboutTape 56 = .ok (.aload_n 0, 1) := by decide +kernel
theorem d_T_aboutTape_57 : decode b_T_aboutTape 57 = .ok (.getfield 9, 3) := by decide +kernel
theorem d_T_aboutTape_60 : decode b_T_aboutTape 60 = .ok (.ireturn, 1) := by decide +kernel
theorem d_T_aboutTape_61 : decode b_T_aboutTape 61 = .ok (.aload_n 0, 1) := by decide +kernel
theorem d_T_aboutTape_62 : decode b_T_aboutTape 62 = .ok (.getfield 15, 3) := by decide +kernel
theorem d_T_aboutTape_65 : decode b_T_aboutTape 65 = .ok (.ireturn, 1) := by decide +kernel
theorem d_T_aboutTape_66 : decode b_T_aboutTape 66 = .ok (.aload_n 0, 1) := by decide +kernel
theorem d_T_aboutTape_67 : decode b_T_aboutTape 67 = .ok (.getfield 18, 3) := by decide +kernel
theorem d_T_aboutTape_70 : decode b_T_aboutTape 70 = .ok (.ireturn, 1) := by decide +kernel
theorem d_T_aboutTape_71 : decode b_T_aboutTape 71 = .ok (.aload_n 0, 1) := by decide +kernel
theorem d_T_aboutTape_72 : decode b_T_aboutTape 72 = .ok (.getfield 21, 3) := by decide +kernel
theorem d_T_aboutTape_75 : decode b_T_aboutTape 75 = .ok (.ireturn, 1) := by decide +kernel
theorem d_T_aboutTape_76 : decode b_T_aboutTape 76 = .ok (.aload_n 0, 1) := by decide +kernel
theorem d_T_aboutTape_77 : decode b_T_aboutTape 77 = .ok (.invokevirtual 68, 3) := by decide +kernel
theorem d_T_aboutTape_80 : decode b_T_aboutTape 80 = .ok (.ireturn, 1) := by decide +kernel
theorem d_T_aboutTape_81 : decode b_T_aboutTape 81 = .ok (.aload_n 0, 1) := by decide +kernel
theorem d_T_aboutTape_82 : decode b_T_aboutTape 82 = .ok (.invokevirtual 58, 3) := by decide +kernel
theorem d_T_aboutTape_85 : decode b_T_aboutTape 85 = .ok (.ireturn, 1) := by decide +kernel
theorem d_T_aboutTape_86 : decode b_T_aboutTape 86 = .ok (.aload_n 0, 1) := by decide +kernel
theorem d_T_aboutTape_87 : decode b_T_aboutTape 87 = .ok (.getfield 24, 3) := by decide +kernel
theorem d_T_aboutTape_90 : decode b_T_aboutTape 90 = .ok (.ireturn, 1) := by decide +kernel
theorem d_T_aboutTape_91 : decode b_T_aboutTape 91 = .ok (.aload_n 0, 1) := by decide +kernel
theorem d_T_aboutTape_92 : decode b_T_aboutTape 92 = .ok (.getfield 27, 3) := by decide +kernel
theorem d_T_aboutTape_95 : decode b_T_aboutTape 95 = .ok (.ireturn, 1) := by decide +kernel
theorem d_T_aboutTape_96 : decode b_T_aboutTape 96 = .ok (.aload_n 0, 1) := by decide +kernel
theorem d_T_aboutTape_97 : decode b_T_aboutTape 97 = .ok (.getfield 30, 3) := by decide +kernel
theorem d_T_aboutTape_100 : decode b_T_aboutTape 100 = .ok (.ireturn, 1) := by decide +kernel
theorem d_T_aboutTape_101 : decode b_T_aboutTape 101 = .ok (.aload_n 0, 1) := by decide +kernel
theorem d_T_aboutTape_102 : decode b_T_aboutTape 102 = .ok (.getfield 33, 3) := by decide +kernel
theorem d_T_aboutTape_105 : decode b_T_aboutTape 105 = .ok (.ireturn, 1) := by decide +kernel
theorem d_T_aboutTape_106 : decode b_T_aboutTape 106 = .ok (.bipush (-2), 2) := by decide +kernel
theorem d_T_aboutTape_108 : decode b_T_aboutTape 108 = .ok (.ireturn, 1) := by decide +kernel
theorem d_T_aboutFile_0 : decode b_T_aboutFile 0 = .ok (.aload_n 0, 1) := by decide +kernel
theorem d_T_aboutFile_1 : decode b_T_aboutFile 1 = .ok (.iload_n 1, 1) := by decide +kernel
theorem d_T_aboutFile_2 : decode b_T_aboutFile 2 = .ok (.invokevirtual 71, 3) := by decide +kernel
theorem d_T_aboutFile_5 : decode b_T_aboutFile 5 = .ok (.ifCond .ne 5, 3) := by decide +kernel
theorem d_T_aboutFile_8 : decode b_T_aboutFile 8 = .ok (.iconst (-1), 1) := by decide +kernel
theorem d_T_aboutFile_9 : decode b_T_aboutFile 9 = .ok (.ireturn, 1) := by decide +kernel
theorem d_T_aboutFile_10 : decode b_T_aboutFile 10 = .ok (.iload_n 2, 1) := by decide +kernel
theorem d_T_aboutFile_11 : decode b_T_aboutFile 11 = .ok (.tableswitch 78 0 4 #[33, 40, 52, 62, 68], 33) := by decide +kernel
theorem d_T_aboutFile_44 : decode b_T_aboutFile 44 = .ok (.aload_n 0, 1) := by decide +kernel
theorem d_T_aboutFile_45 : decode b_T_aboutFile 45 = .ok (.getfield 36, 3) := by decide +kernel
theorem d_T_aboutFile_48 : decode b_T_aboutFile 48 = .ok (.iload_n 1, 1) := by decide +kernel
theorem d_T_aboutFile_49 : decode b_T_aboutFile 49 = .ok (.iaload, 1) := by decide +kernel
theorem d_T_aboutFile_50 : decode b_T_aboutFile 50 = .ok (.ireturn, 1) := by decide +kernel
theorem d_T_aboutFile_51 : decode b_T_aboutFile 51 = .ok (.aload_n 0, 1) := by decide +kernel
theorem d_T_aboutFile_52 : decode b_T_aboutFile 52 = .ok (.iload_n 1, 1) := by decide +kernel
theorem d_T_aboutFile_53 : decode b_T_aboutFile 53 = .ok (.aload_n 0, 1) := by decide +kernel
theorem d_T_aboutFile_54 : decode b_T_aboutFile 54 = .ok (.getfield 36, 3) := by decide +kernel
theorem d_T_aboutFile_57 : decode b_T_aboutFile 57 = .ok (.iload_n 1, 1) := by decide +kernel
theorem d_T_aboutFile_58 : decode b_T_aboutFile 58 = .ok (.iaload, 1) := by decide +kernel
theorem d_T_aboutFile_59 : decode b_T_aboutFile 59 = .ok (.invokevirtual 106, 3) := by decide +kernel
theorem d_T_aboutFile_62 : decode b_T_aboutFile 62 = .ok (.ireturn, 1) := by decide +kernel
theorem d_T_aboutFile_63 : decode b_T_aboutFile 63 = .ok (.aload_n 0, 1) := by decide +kernel
theorem d_T_aboutFile_64 : decode b_T_aboutFile 64 = .ok (.aload_n 0, 1) := by decide +kernel
theorem d_T_aboutFile_65 : decode b_T_aboutFile 65 = .ok (.getfield 40, 3) := by decide +kernel
theorem d_T_aboutFile_68 : decode b_T_aboutFile 68 = .ok (.iload_n 1, 1) := by decide +kernel
theorem d_T_aboutFile_69 : decode b_T_aboutFile 69 = .ok (.invokevirtual 109, 3) := by decide +kernel
theorem d_T_aboutFile_72 : decode b_T_aboutFile 72 = .ok (.ireturn, 1) := by decide +kernel
theorem d_T_aboutFile_73 : decode b_T_aboutFile 73 = .ok (.aload_n 0, 1) := by decide +kernel
theorem d_T_aboutFile_74 : decode b_T_aboutFile 74 = .ok (.iload_n 1, 1) := by decide +kernel
theorem d_T_aboutFile_75 : decode b_T_aboutFile 75 = .ok (.invokevirtual 75, 3) := by decide +kernel
theorem d_T_aboutFile_78 : decode b_T_aboutFile 78 = .ok (.ireturn, 1) := by decide +kernel
theorem d_T_aboutFile_79 : decode b_T_aboutFile 79 = .ok (.aload_n 0, 1) := by decide +kernel
theorem d_T_aboutFile_80 : decode b_T_aboutFile 80 = .ok (.aload_n 0, 1) := by decide +kernel
theorem d_T_aboutFile_81 : decode b_T_aboutFile 81 = .ok (.getfield 43, 3) := by decide +kernel
theorem d_T_aboutFile_84 : decode b_T_aboutFile 84 = .ok (.iload_n 1, 1) := by decide +kernel
theorem d_T_aboutFile_85 : decode b_T_aboutFile 85 = .ok (.invokevirtual 109, 3) := by decide +kernel
theorem d_T_aboutFile_88 : decode b_T_aboutFile 88 = .ok (.ireturn, 1) := by decide +kernel
theorem d_T_aboutFile_89 : decode b_T_aboutFile 89 = .ok (.bipush (-2), 2) := by decide +kernel
theorem d_T_aboutFile_91 : decode b_T_aboutFile 91 = .ok (.ireturn, 1) := by decide +kernel
theorem d_T_aboutBlock_0 : decode b_T_aboutBlock 0 = .ok (.aload_n 0, 1) := by decide +kernel
theorem d_T_aboutBlock_1 : decode b_T_aboutBlock 1 = .ok (.iload_n 1, 1) := by decide +kernel
theorem d_T_aboutBlock_2 : decode b_T_aboutBlock 2 = .ok (.iload_n 2, 1) := by decide +kernel
theorem d_T_aboutBlock_3 : decode b_T_aboutBlock 3 = .ok (.invokevirtual 85, 3) := by decide +kernel
theorem d_T_aboutBlock_6 : decode b_T_aboutBlock 6 = .ok (.ifCond .ne 5, 3) := by decide +kernel
theorem d_T_aboutBlock_9 : decode b_T_aboutBlock 9 = .ok (.iconst (-1), 1) := by decide +kernel
theorem d_T_aboutBlock_10 : decode b_T_aboutBlock 10 = .ok (.ireturn, 1) := by decide +kernel
theorem d_T_aboutBlock_11 : decode b_T_aboutBlock 11 = .ok (.aload_n 0, 1) := by decide +kernel
theorem d_T_aboutBlock_12 : decode b_T_aboutBlock 12 = .ok (.iload_n 1, 1) := by decide +kernel
theorem d_T_aboutBlock_13 : decode b_T_aboutBlock 13 = .ok (.iload_n 2, 1) := by decide +kernel
theorem d_T_aboutBlock_14 : decode b_T_aboutBlock 14 = .ok (.invokevirtual 82, 3) := by decide +kernel
theorem d_T_aboutBlock_17 : decode b_T_aboutBlock 17 = .ok (.istore 4, 2) := by decide +kernel
theorem d_T_aboutBlock_19 : decode b_T_aboutBlock 19 = .ok (.iload_n 3, 1) := by decide +kernel
theorem d_T_aboutBlock_20 : decode b_T_aboutBlock 20 = .ok (.tableswitch 116 0 7 #[48, 56, 64, 71, 78, 92, 100, 108], 48) := by decide +kernel
theorem d_T_aboutBlock_68 : decode b_T_aboutBlock 68 = .ok (.aload_n 0, 1) := by decide +kernel
theorem d_T_aboutBlock_69 : decode b_T_aboutBlock 69 = .ok (.getfield 40, 3) := by decide +kernel
theorem d_T_aboutBlock_72 : decode b_T_aboutBlock 72 = .ok (.iload 4, 2) := by decide +kernel
theorem d_T_aboutBlock_74 : decode b_T_aboutBlock 74 = .ok (.iaload, 1) := by decide +kernel
theorem d_T_aboutBlock_75 : decode b_T_aboutBlock 75 = .ok (.ireturn, 1) := by decide +kernel
theorem d_T_aboutBlock_76 : decode b_T_aboutBlock 76 = .ok (.aload_n 0, 1) := by decide +kernel
theorem d_T_aboutBlock_77 : decode b_T_aboutBlock 77 = .ok (.getfield 43, 3) := by decide +kernel
theorem d_T_aboutBlock_80 : decode b_T_aboutBlock 80 = .ok (.iload 4, 2) := by decide +kernel
theorem d_T_aboutBlock_82 : decode b_T_aboutBlock 82 = .ok (.iaload, 1) := by decide +kernel
theorem d_T_aboutBlock_83 : decode b_T_aboutBlock 83 = .ok (.ireturn, 1) := by decide +kernel
theorem d_T_aboutBlock_84 : decode b_T_aboutBlock 84 = .ok (.aload_n 0, 1) := by decide +kernel
theorem d_T_aboutBlock_85 : decode b_T_aboutBlock 85 = .ok (.iload 4, 2) := by decide +kernel
theorem d_T_aboutBlock_87 : decode b_T_aboutBlock 87 = .ok (.invokevirtual 113, 3) := by decide +kernel
theorem d_T_aboutBlock_90 : decode b_T_aboutBlock 90 = .ok (.ireturn, 1) := by decide +kernel
theorem d_T_aboutBlock_91 : decode b_T_aboutBlock 91 = .ok (.aload_n 0, 1) := by decide +kernel
theorem d_T_aboutBlock_92 : decode b_T_aboutBlock 92 = .ok (.iload_n 1, 1) := by decide +kernel
theorem d_T_aboutBlock_93 : decode b_T_aboutBlock 93 = .ok (.iload_n 2, 1) := by decide +kernel
theorem d_T_aboutBlock_94 : decode b_T_aboutBlock 94 = .ok (.invokevirtual 116, 3) := by decide +kernel
theorem d_T_aboutBlock_97 : decode b_T_aboutBlock 97 = .ok (.ireturn, 1) := by decide +kernel
theorem d_T_aboutBlock_98 : decode b_T_aboutBlock 98 = .ok (.aload_n 0, 1) := by decide +kernel
theorem d_T_aboutBlock_99 : decode b_T_aboutBlock 99 = .ok (.iload_n 1, 1) := by decide +kernel
theorem d_T_aboutBlock_100 : decode b_T_aboutBlock 100 = .ok (.iload_n 2, 1) := by decide +kernel
theorem d_T_aboutBlock_101 : decode b_T_aboutBlock 101 = .ok (.invokevirtual 116, 3) := by decide +kernel
theorem d_T_aboutBlock_104 : decode b_T_aboutBlock 104 = .ok (.aload_n 0, 1) := by decide +kernel
theorem d_T_aboutBlock_105 : decode b_T_aboutBlock 105 = .ok (.iload 4, 2) := by decide +kernel
theorem d_T_aboutBlock_107 : decode b_T_aboutBlock 107 = .ok (.invokevirtual 113, 3) := by decide +kernel
theorem d_T_aboutBlock_110 : decode b_T_aboutBlock 110 = .ok (.iadd, 1) := by decide +kernel
theorem d_T_aboutBlock_111 : decode b_T_aboutBlock 111 = .ok (.ireturn, 1) := by decide +kernel
theorem d_T_aboutBlock_112 : decode b_T_aboutBlock 112 = .ok (.aload_n 0, 1) := by decide +kernel
theorem d_T_aboutBlock_113 : decode b_T_aboutBlock 113 = .ok (.getfield 49, 3) := by decide +kernel
theorem d_T_aboutBlock_116 : decode b_T_aboutBlock 116 = .ok (.iload 4, 2) := by decide +kernel
theorem d_T_aboutBlock_118 : decode b_T_aboutBlock 118 = .ok (.iaload, 1) := by decide +kernel
theorem d_T_aboutBlock_119 : decode b_T_aboutBlock 119 = .ok (.ireturn, 1) := by decide +kernel
theorem d_T_aboutBlock_120 : decode b_T_aboutBlock 120 = .ok (.aload_n 0, 1) := by decide +kernel
theorem d_T_aboutBlock_121 : decode b_T_aboutBlock 121 = .ok (.iload_n 1, 1) := by decide +kernel
theorem d_T_aboutBlock_122 : decode b_T_aboutBlock 122 = .ok (.iload_n 2, 1) := by decide +kernel
theorem d_T_aboutBlock_123 : decode b_T_aboutBlock 123 = .ok (.iconst 0, 1) := by decide +kernel
theorem d_T_aboutBlock_124 : decode b_T_aboutBlock 124 = .ok (.invokevirtual 119, 3) := by decide +kernel
theorem d_T_aboutBlock_127 : decode b_T_aboutBlock 127 = .ok (.ireturn, 1) := by decide +kernel
theorem d_T_aboutBlock_128 : decode b_T_aboutBlock 128 = .ok (.aload_n 0, 1) := by decide +kernel
theorem d_T_aboutBlock_129 : decode b_T_aboutBlock 129 = .ok (.iload_n 1, 1) := by decide +kernel
theorem d_T_aboutBlock_130 : decode b_T_aboutBlock 130 = .ok (.iload_n 2, 1) := by decide +kernel
theorem d_T_aboutBlock_131 : decode b_T_aboutBlock 131 = .ok (.iconst 1, 1) := by decide +kernel
theorem d_T_aboutBlock_132 : decode b_T_aboutBlock 132 = .ok (.invokevirtual 119, 3) := by decide +kernel
theorem d_T_aboutBlock_135 : decode b_T_aboutBlock 135 = .ok (.ireturn, 1) := by decide +kernel
theorem d_T_aboutBlock_136 : decode b_T_aboutBlock 136 = .ok (.bipush (-2), 2) := by decide +kernel
theorem d_T_aboutBlock_138 : decode b_T_aboutBlock 138 = .ok (.ireturn, 1) := by decide +kernel
theorem d_T_kindOfFoot_0 : decode b_T_kindOfFoot 0 = .ok (.iload_n 1, 1) := by decide +kernel
theorem d_T_kindOfFoot_1 : decode b_T_kindOfFoot 1 = .ok (.ifCond .lt 11, 3) := by decide +kernel
theorem d_T_kindOfFoot_4 : decode b_T_kindOfFoot 4 = .ok (.iload_n 1, 1) := by decide +kernel
theorem d_T_kindOfFoot_5 : decode b_T_kindOfFoot 5 = .ok (.aload_n 0, 1) := by decide +kernel
theorem d_T_kindOfFoot_6 : decode b_T_kindOfFoot 6 = .ok (.getfield 9, 3) := by decide +kernel
theorem d_T_kindOfFoot_9 : decode b_T_kindOfFoot 9 = .ok (.if_icmp .lt 6, 3) := by decide +kernel
theorem d_T_kindOfFoot_12 : decode b_T_kindOfFoot 12 = .ok (.bipush (-2), 2) := by decide +kernel
theorem d_T_kindOfFoot_14 : decode b_T_kindOfFoot 14 = .ok (.ireturn, 1) := by decide +kernel
theorem d_T_kindOfFoot_15 : decode b_T_kindOfFoot 15 = .ok (.aload_n 0, 1) := by decide +kernel
theorem d_T_kindOfFoot_16 : decode b_T_kindOfFoot 16 = .ok (.iload_n 1, 1) := by decide +kernel
theorem d_T_kindOfFoot_17 : decode b_T_kindOfFoot 17 = .ok (.iload_n 1, 1) := by decide +kernel
theorem d_T_kindOfFoot_18 : decode b_T_kindOfFoot 18 = .ok (.iconst 1, 1) := by decide +kernel
theorem d_T_kindOfFoot_19 : decode b_T_kindOfFoot 19 = .ok (.iadd, 1) := by decide +kernel
theorem d_T_kindOfFoot_20 : decode b_T_kindOfFoot 20 = .ok (.invokevirtual 96, 3) := by decide +kernel
theorem d_T_kindOfFoot_23 : decode b_T_kindOfFoot 23 = .ok (.ifCond .eq 5, 3) := by decide +kernel
theorem d_T_kindOfFoot_26 : decode b_T_kindOfFoot 26 = .ok (.iconst 0, 1) := by decide +kernel
theorem d_T_kindOfFoot_27 : decode b_T_kindOfFoot 27 = .ok (.ireturn, 1) := by decide +kernel
theorem d_T_kindOfFoot_28 : decode b_T_kindOfFoot 28 = .ok (.iload_n 1, 1) := by decide +kernel
theorem d_T_kindOfFoot_29 : decode b_T_kindOfFoot 29 = .ok (.aload_n 0, 1) := by decide +kernel
theorem d_T_kindOfFoot_30 : decode b_T_kindOfFoot 30 = .ok (.iconst 0, 1) := by decide +kernel
theorem d_T_kindOfFoot_31 : decode b_T_kindOfFoot 31 = .ok (.invokevirtual 75, 3) := by decide +kernel
theorem d_T_kindOfFoot_34 : decode b_T_kindOfFoot 34 = .ok (.if_icmp .ge 7, 3) := by decide +kernel
theorem d_T_kindOfFoot_37 : decode b_T_kindOfFoot 37 = .ok (.iconst 1, 1) := by decide +kernel
theorem d_T_kindOfFoot_38 : decode b_T_kindOfFoot 38 = .ok (.goto 5, 3) := by decide +kernel
theorem d_T_kindOfFoot_41 : decode b_T_kindOfFoot 41 = .ok (.bipush 11, 2) := by decide +kernel
theorem d_T_kindOfFoot_43 : decode b_T_kindOfFoot 43 = .ok (.istore_n 2, 1) := by decide +kernel
theorem d_T_kindOfFoot_44 : decode b_T_kindOfFoot 44 = .ok (.aload_n 0, 1) := by decide +kernel
theorem d_T_kindOfFoot_45 : decode b_T_kindOfFoot 45 = .ok (.iload_n 1, 1) := by decide +kernel
theorem d_T_kindOfFoot_46 : decode b_T_kindOfFoot 46 = .ok (.iload_n 1, 1) := by decide +kernel
theorem d_T_kindOfFoot_47 : decode b_T_kindOfFoot 47 = .ok (.iconst 1, 1) := by decide +kernel
theorem d_T_kindOfFoot_48 : decode b_T_kindOfFoot 48 = .ok (.iadd, 1) := by decide +kernel
theorem d_T_kindOfFoot_49 : decode b_T_kindOfFoot 49 = .ok (.invokevirtual 93, 3) := by decide +kernel
theorem d_T_kindOfFoot_52 : decode b_T_kindOfFoot 52 = .ok (.ifCond .ge 7, 3) := by decide +kernel
theorem d_T_kindOfFoot_55 : decode b_T_kindOfFoot 55 = .ok (.iload_n 2, 1) := by decide +kernel
theorem d_T_kindOfFoot_56 : decode b_T_kindOfFoot 56 = .ok (.goto 6, 3) := by decide +kernel
theorem d_T_kindOfFoot_59 : decode b_T_kindOfFoot 59 = .ok (.iload_n 2, 1) := by decide +kernel
theorem d_T_kindOfFoot_60 : decode b_T_kindOfFoot 60 = .ok (.iconst 1, 1) := by decide +kernel
theorem d_T_kindOfFoot_61 : decode b_T_kindOfFoot 61 = .ok (.iadd, 1) := by decide +kernel
theorem d_T_kindOfFoot_62 : decode b_T_kindOfFoot 62 = .ok (.ireturn, 1) := by decide +kernel
theorem d_T_allBlocks_0 : decode b_T_allBlocks 0 = .ok (.aload_n 0, 1) := by decide +kernel
theorem d_T_allBlocks_1 : decode b_T_allBlocks 1 = .ok (.getfield 36, 3) := by decide +kernel
theorem d_T_allBlocks_4 : decode b_T_allBlocks 4 = .ok (.iconst 0, 1) := by decide +kernel
theorem d_T_allBlocks_5 : decode b_T_allBlocks 5 = .ok (.iaload, 1) := by decide +kernel
theorem d_T_allBlocks_6 : decode b_T_allBlocks 6 = .ok (.aload_n 0, 1) := by decide +kernel
theorem d_T_allBlocks_7 : decode b_T_allBlocks 7 = .ok (.getfield 36, 3) := by decide +kernel
theorem d_T_allBlocks_10 : decode b_T_allBlocks 10 = .ok (.iconst 1, 1) := by decide +kernel
theorem d_T_allBlocks_11 : decode b_T_allBlocks 11 = .ok (.iaload, 1) := by decide +kernel
theorem d_T_allBlocks_12 : decode b_T_allBlocks 12 = .ok (.iadd, 1) := by decide +kernel
theorem d_T_allBlocks_13 : decode b_T_allBlocks 13 = .ok (.ireturn, 1) := by decide +kernel
theorem d_T_greatestData_0 : decode b_T_greatestData 0 = .ok (.aload_n 0, 1) := by decide +kernel
theorem d_T_greatestData_1 : decode b_T_greatestData 1 = .ok (.iload_n 1, 1) := by decide +kernel
theorem d_T_greatestData_2 : decode b_T_greatestData 2 = .ok (.invokevirtual 71, 3) := by decide +kernel
theorem d_T_greatestData_5 : decode b_T_greatestData 5 = .ok (.ifCond .ne 5, 3) := by decide +kernel
theorem d_T_greatestData_8 : decode b_T_greatestData 8 = .ok (.iconst (-1), 1) := by decide +kernel
theorem d_T_greatestData_9 : decode b_T_greatestData 9 = .ok (.ireturn, 1) := by decide +kernel
theorem d_T_greatestData_10 : decode b_T_greatestData 10 = .ok (.aload_n 0, 1) := by decide +kernel
theorem d_T_greatestData_11 : decode b_T_greatestData 11 = .ok (.getfield 36, 3) := by decide +kernel
theorem d_T_greatestData_14 : decode b_T_greatestData 14 = .ok (.iload_n 1, 1) := by decide +kernel
theorem d_T_greatestData_15 : decode b_T_greatestData 15 = .ok (.iaload, 1) := by decide +kernel
theorem d_T_greatestData_16 : decode b_T_greatestData 16 = .ok (.bipush 20, 2) := by decide +kernel
theorem d_T_greatestData_18 : decode b_T_greatestData 18 = .ok (.if_icmp .lt 5, 3) := by decide +kernel
theorem d_T_greatestData_21 : decode b_T_greatestData 21 = .ok (.iconst 0, 1) := by decide +kernel
theorem d_T_greatestData_22 : decode b_T_greatestData 22 = .ok (.ireturn, 1) := by decide +kernel
theorem d_T_greatestData_23 : decode b_T_greatestData 23 = .ok (.iconst 0, 1) := by decide +kernel
theorem d_T_greatestData_24 : decode b_T_greatestData 24 = .ok (.bipush 99, 2) := by decide +kernel
theorem d_T_greatestData_26 : decode b_T_greatestData 26 = .ok (.aload_n 0, 1) := by decide +kernel
theorem d_T_greatestData_27 : decode b_T_greatestData 27 = .ok (.invokevirtual 68, 3) := by decide +kernel
theorem d_T_greatestData_30 : decode b_T_greatestData 30 = .ok (.aload_n 0, 1) := by decide +kernel
theorem d_T_greatestData_31 : decode b_T_greatestData 31 = .ok (.getfield 15, 3) := by decide +kernel
theorem d_T_greatestData_34 : decode b_T_greatestData 34 = .ok (.isub, 1) := by decide +kernel
theorem d_T_greatestData_35 : decode b_T_greatestData 35 = .ok (.iconst 2, 1) := by decide +kernel
theorem d_T_greatestData_36 : decode b_T_greatestData 36 = .ok (.aload_n 0, 1) := by decide +kernel
theorem d_T_greatestData_37 : decode b_T_greatestData 37 = .ok (.getfield 18, 3) := by decide +kernel
theorem d_T_greatestData_40 : decode b_T_greatestData 40 = .ok (.imul, 1) := by decide +kernel
theorem d_T_greatestData_41 : decode b_T_greatestData 41 = .ok (.isub, 1) := by decide +kernel
theorem d_T_greatestData_42 : decode b_T_greatestData 42 = .ok (.invokestatic 62, 3) := by decide +kernel
theorem d_T_greatestData_45 : decode b_T_greatestData 45 = .ok (.invokestatic 99, 3) := by decide +kernel
theorem d_T_greatestData_48 : decode b_T_greatestData 48 = .ok (.ireturn, 1) := by decide +kernel
theorem d_T_blocksThatFit_0 : decode b_T_blocksThatFit 0 = .ok (.iload_n 1, 1) := by decide +kernel
theorem d_T_blocksThatFit_1 : decode b_T_blocksThatFit 1 = .ok (.iconst 1, 1) := by decide +kernel
theorem d_T_blocksThatFit_2 : decode b_T_blocksThatFit 2 = .ok (.if_icmp .lt 9, 3) := by decide +kernel
theorem d_T_blocksThatFit_5 : decode b_T_blocksThatFit 5 = .ok (.iload_n 1, 1) := by decide +kernel
theorem d_T_blocksThatFit_6 : decode b_T_blocksThatFit 6 = .ok (.bipush 99, 2) := by decide +kernel
theorem d_T_blocksThatFit_8 : decode b_T_blocksThatFit 8 = .ok (.if_icmp .le 6, 3) := by decide +kernel
theorem d_T_blocksThatFit_11 : decode b_T_blocksThatFit 11 = .ok (.bipush (-2), 2) := by decide +kernel
theorem d_T_blocksThatFit_13 : decode b_T_blocksThatFit 13 = .ok (.ireturn, 1) := by decide +kernel
theorem d_T_blocksThatFit_14 : decode b_T_blocksThatFit 14 = .ok (.iload_n 1, 1) := by decide +kernel
theorem d_T_blocksThatFit_15 : decode b_T_blocksThatFit 15 = .ok (.iconst 2, 1) := by decide +kernel
theorem d_T_blocksThatFit_16 : decode b_T_blocksThatFit 16 = .ok (.aload_n 0, 1) := by decide +kernel
theorem d_T_blocksThatFit_17 : decode b_T_blocksThatFit 17 = .ok (.getfield 18, 3) := by decide +kernel
theorem d_T_blocksThatFit_20 : decode b_T_blocksThatFit 20 = .ok (.imul, 1) := by decide +kernel
theorem d_T_blocksThatFit_21 : decode b_T_blocksThatFit 21 = .ok (.iadd, 1) := by decide +kernel
theorem d_T_blocksThatFit_22 : decode b_T_blocksThatFit 22 = .ok (.istore_n 2, 1) := by decide +kernel
theorem d_T_blocksThatFit_23 : decode b_T_blocksThatFit 23 = .ok (.iload_n 2, 1) := by decide +kernel
theorem d_T_blocksThatFit_24 : decode b_T_blocksThatFit 24 = .ok (.iconst 1, 1) := by decide +kernel
theorem d_T_blocksThatFit_25 : decode b_T_blocksThatFit 25 = .ok (.if_icmp .ge 5, 3) := by decide +kernel
theorem d_T_blocksThatFit_28 : decode b_T_blocksThatFit 28 = .ok (.iconst 0, 1) := by decide +kernel
theorem d_T_blocksThatFit_29 : decode b_T_blocksThatFit 29 = .ok (.ireturn, 1) := by decide +kernel
theorem d_T_blocksThatFit_30 : decode b_T_blocksThatFit 30 = .ok (.bipush 40, 2) := by decide +kernel
theorem d_T_blocksThatFit_32 : decode b_T_blocksThatFit 32 = .ok (.aload_n 0, 1) := by decide +kernel
theorem d_T_blocksThatFit_33 : decode b_T_blocksThatFit 33 = .ok (.invokevirtual 58, 3) := by decide +kernel
theorem d_T_blocksThatFit_36 : decode b_T_blocksThatFit 36 = .ok (.isub, 1) := by decide +kernel
theorem d_T_blocksThatFit_37 : decode b_T_blocksThatFit 37 = .ok (.aload_n 0, 1) := by decide +kernel
theorem d_T_blocksThatFit_38 : decode b_T_blocksThatFit 38 = .ok (.invokevirtual 68, 3) := by decide +kernel
theorem d_T_blocksThatFit_41 : decode b_T_blocksThatFit 41 = .ok (.aload_n 0, 1) := by decide +kernel
theorem d_T_blocksThatFit_42 : decode b_T_blocksThatFit 42 = .ok (.getfield 15, 3) := by decide +kernel
theorem d_T_blocksThatFit_45 : decode b_T_blocksThatFit 45 = .ok (.isub, 1) := by decide +kernel
theorem d_T_blocksThatFit_46 : decode b_T_blocksThatFit 46 = .ok (.iload_n 2, 1) := by decide +kernel
theorem d_T_blocksThatFit_47 : decode b_T_blocksThatFit 47 = .ok (.idiv, 1) := by decide +kernel
theorem d_T_blocksThatFit_48 : decode b_T_blocksThatFit 48 = .ok (.invokestatic 62, 3) := by decide +kernel
theorem d_T_blocksThatFit_51 : decode b_T_blocksThatFit 51 = .ok (.ireturn, 1) := by decide +kernel
theorem d_T_aboutNearest_0 : decode b_T_aboutNearest 0 = .ok (.iload_n 1, 1) := by decide +kernel
theorem d_T_aboutNearest_1 : decode b_T_aboutNearest 1 = .ok (.ifCond .lt 8, 3) := by decide +kernel
theorem d_T_aboutNearest_4 : decode b_T_aboutNearest 4 = .ok (.iload_n 1, 1) := by decide +kernel
theorem d_T_aboutNearest_5 : decode b_T_aboutNearest 5 = .ok (.iconst 3, 1) := by decide +kernel
theorem d_T_aboutNearest_6 : decode b_T_aboutNearest 6 = .ok (.if_icmp .le 6, 3) := by decide +kernel
theorem d_T_aboutNearest_9 : decode b_T_aboutNearest 9 = .ok (.bipush (-2), 2) := by decide +kernel
theorem d_T_aboutNearest_11 : decode b_T_aboutNearest 11 = .ok (.ireturn, 1) := by decide +kernel
theorem d_T_aboutNearest_12 : decode b_T_aboutNearest 12 = .ok (.iconst (-1), 1) := by decide +kernel
theorem d_T_aboutNearest_13 : decode b_T_aboutNearest 13 = .ok (.istore_n 2, 1) := by decide +kernel
theorem d_T_aboutNearest_14 : decode b_T_aboutNearest 14 = .ok (.bipush (-6), 2) := by decide +kernel
theorem d_T_aboutNearest_16 : decode b_T_aboutNearest 16 = .ok (.istore_n 3, 1) := by decide +kernel
theorem d_T_aboutNearest_17 : decode b_T_aboutNearest 17 = .ok (.iconst 0, 1) := by decide +kernel
theorem d_T_aboutNearest_18 : decode b_T_aboutNearest 18 = .ok (.istore 4, 2) := by decide +kernel
theorem d_T_aboutNearest_20 : decode b_T_aboutNearest 20 = .ok (.iload 4, 2) := by decide +kernel
theorem d_T_aboutNearest_22 : decode b_T_aboutNearest 22 = .ok (.iconst 2, 1) := by decide +kernel
theorem d_T_aboutNearest_23 : decode b_T_aboutNearest 23 = .ok (.if_icmp .ge 102, 3) := by decide +kernel
theorem d_T_aboutNearest_26 : decode b_T_aboutNearest 26 = .ok (.iconst 0, 1) := by decide +kernel
theorem d_T_aboutNearest_27 : decode b_T_aboutNearest 27 = .ok (.istore 5, 2) := by decide +kernel
theorem d_T_aboutNearest_29 : decode b_T_aboutNearest 29 = .ok (.iload 5, 2) := by decide +kernel
theorem d_T_aboutNearest_31 : decode b_T_aboutNearest 31 = .ok (.aload_n 0, 1) := by decide +kernel
theorem d_T_aboutNearest_32 : decode b_T_aboutNearest 32 = .ok (.getfield 36, 3) := by decide +kernel
theorem d_T_aboutNearest_35 : decode b_T_aboutNearest 35 = .ok (.iload 4, 2) := by decide +kernel
theorem d_T_aboutNearest_37 : decode b_T_aboutNearest 37 = .ok (.iaload, 1) := by decide +kernel
theorem d_T_aboutNearest_38 : decode b_T_aboutNearest 38 = .ok (.if_icmp .ge 81, 3) := by decide +kernel
theorem d_T_aboutNearest_41 : decode b_T_aboutNearest 41 = .ok (.iconst 0, 1) := by decide +kernel
theorem d_T_aboutNearest_42 : decode b_T_aboutNearest 42 = .ok (.istore 6, 2) := by decide +kernel
theorem d_T_aboutNearest_44 : decode b_T_aboutNearest 44 = .ok (.iload 6, 2) := by decide +kernel
theorem d_T_aboutNearest_46 : decode b_T_aboutNearest 46 = .ok (.iconst 1, 1) := by decide +kernel
theorem d_T_aboutNearest_47 : decode b_T_aboutNearest 47 = .ok (.if_icmp .gt 66, 3) := by decide +kernel
theorem d_T_aboutNearest_50 : decode b_T_aboutNearest 50 = .ok (.aload_n 0, 1) := by decide +kernel
theorem d_T_aboutNearest_51 : decode b_T_aboutNearest 51 = .ok (.iload 4, 2) := by decide +kernel
theorem d_T_aboutNearest_53 : decode b_T_aboutNearest 53 = .ok (.iload 5, 2) := by decide +kernel
theorem d_T_aboutNearest_55 : decode b_T_aboutNearest 55 = .ok (.iload 6, 2) := by decide +kernel
theorem d_T_aboutNearest_57 : decode b_T_aboutNearest 57 = .ok (.invokevirtual 119, 3) := by decide +kernel
theorem d_T_aboutNearest_60 : decode b_T_aboutNearest 60 = .ok (.istore 7, 2) := by decide +kernel
theorem d_T_aboutNearest_62 : decode b_T_aboutNearest 62 = .ok (.iload_n 2, 1) := by decide +kernel
theorem d_T_aboutNearest_63 : decode b_T_aboutNearest 63 = .ok (.ifCond .lt 9, 3) := by decide +kernel
theorem d_T_aboutNearest_66 : decode b_T_aboutNearest 66 = .ok (.iload 7, 2) := by decide +kernel
theorem d_T_aboutNearest_68 : decode b_T_aboutNearest 68 = .ok (.iload_n 2, 1) := by decide +kernel
theorem d_T_aboutNearest_69 : decode b_T_aboutNearest 69 = .ok (.if_icmp .ge 38, 3) := by decide +kernel
theorem d_T_aboutNearest_72 : decode b_T_aboutNearest 72 = .ok (.iload 7, 2) := by decide +kernel
theorem d_T_aboutNearest_74 : decode b_T_aboutNearest 74 = .ok (.istore_n 2, 1) := by decide +kernel
theorem d_T_aboutNearest_75 : decode b_T_aboutNearest 75 = .ok (.iload_n 1, 1) := by decide +kernel
theorem d_T_aboutNearest_76 : decode b_T_aboutNearest 76 = .ok (.ifCond .ne 8, 3) := by decide +kernel
theorem d_T_aboutNearest_79 : decode b_T_aboutNearest 79 = .ok (.iload 4, 2) := by decide +kernel
theorem d_T_aboutNearest_81 : decode b_T_aboutNearest 81 = .ok (.goto 25, 3) := by decide +kernel
theorem d_T_aboutNearest_84 : decode b_T_aboutNearest 84 = .ok (.iload_n 1, 1) := by decide +kernel
theorem d_T_aboutNearest_85 : decode b_T_aboutNearest 85 = .ok (.iconst 1, 1) := by decide +kernel
theorem d_T_aboutNearest_86 : decode b_T_aboutNearest 86 = .ok (.if_icmp .ne 8, 3) := by decide +kernel
theorem d_T_aboutNearest_89 : decode b_T_aboutNearest 89 = .ok (.iload 5, 2) := by decide +kernel
theorem d_T_aboutNearest_91 : decode b_T_aboutNearest 91 = .ok (.goto 15, 3) := by decide +kernel
theorem d_T_aboutNearest_94 : decode b_T_aboutNearest 94 = .ok (.iload_n 1, 1) := by decide +kernel
theorem d_T_aboutNearest_95 : decode b_T_aboutNearest 95 = .ok (.iconst 2, 1) := by decide +kernel
theorem d_T_aboutNearest_96 : decode b_T_aboutNearest 96 = .ok (.if_icmp .ne 8, 3) := by decide +kernel
theorem d_T_aboutNearest_99 : decode b_T_aboutNearest 99 = .ok (.iload 6, 2) := by decide +kernel
theorem d_T_aboutNearest_101 : decode b_T_aboutNearest 101 = .ok (.goto 5, 3) := by decide +kernel
theorem d_T_aboutNearest_104 : decode b_T_aboutNearest 104 = .ok (.iload 7, 2) := by decide +kernel
theorem d_T_aboutNearest_106 : decode b_T_aboutNearest 106 = .ok (.istore_n 3, 1) := by decide +kernel
theorem d_T_aboutNearest_107 : decode b_T_aboutNearest 107 = .ok (.iinc 6 1, 3) := by decide +kernel
theorem d_T_aboutNearest_110 : decode b_T_aboutNearest 110 = .ok (.goto (-66), 3) := by decide +kernel
theorem d_T_aboutNearest_113 : decode b_T_aboutNearest 113 = .ok (.iinc 5 1, 3) := by decide +kernel
theorem d_T_aboutNearest_116 : decode b_T_aboutNearest 116 = .ok (.goto (-87), 3) := by decide +kernel
theorem d_T_aboutNearest_119 : decode b_T_aboutNearest 119 = .ok (.iinc 4 1, 3) := by decide +kernel
theorem d_T_aboutNearest_122 : decode b_T_aboutNearest 122 = .ok (.goto (-102), 3) := by decide +kernel
theorem d_T_aboutNearest_125 : decode b_T_aboutNearest 125 = .ok (.iload_n 3, 1) := by decide +kernel
theorem d_T_aboutNearest_126 : decode b_T_aboutNearest 126 = .ok (.ireturn, 1) := by decide +kernel
theorem d_T_isFile_0 : decode b_T_isFile 0 = .ok (.iload_n 1, 1) := by decide +kernel
theorem d_T_isFile_1 : decode b_T_isFile 1 = .ok (.ifCond .lt 12, 3) := by decide +kernel
theorem d_T_isFile_4 : decode b_T_isFile 4 = .ok (.iload_n 1, 1) := by decide +kernel
theorem d_T_isFile_5 : decode b_T_isFile 5 = .ok (.iconst 2, 1) := by decide +kernel
theorem d_T_isFile_6 : decode b_T_isFile 6 = .ok (.if_icmp .ge 7, 3) := by decide +kernel
theorem d_T_isFile_9 : decode b_T_isFile 9 = .ok (.iconst 1, 1) := by decide +kernel
theorem d_T_isFile_10 : decode b_T_isFile 10 = .ok (.goto 4, 3) := by decide +kernel
theorem d_T_isFile_13 : decode b_T_isFile 13 = .ok (.iconst 0, 1) := by decide +kernel
theorem d_T_isFile_14 : decode b_T_isFile 14 = .ok (.ireturn, 1) := by decide +kernel
theorem d_T_isBlock_0 : decode b_T_isBlock 0 = .ok (.aload_n 0, 1) := by decide +kernel
theorem d_T_isBlock_1 : decode b_T_isBlock 1 = .ok (.iload_n 1, 1) := by decide +kernel
theorem d_T_isBlock_2 : decode b_T_isBlock 2 = .ok (.invokevirtual 71, 3) := by decide +kernel
theorem d_T_isBlock_5 : decode b_T_isBlock 5 = .ok (.ifCond .eq 21, 3) := by decide +kernel
theorem d_T_isBlock_8 : decode b_T_isBlock 8 = .ok (.iload_n 2, 1) := by decide +kernel
theorem d_T_isBlock_9 : decode b_T_isBlock 9 = .ok (.ifCond .lt 17, 3) := by decide +kernel
theorem d_T_isBlock_12 : decode b_T_isBlock 12 = .ok (.iload_n 2, 1) := by decide +kernel
theorem d_T_isBlock_13 : decode b_T_isBlock 13 = .ok (.aload_n 0, 1) := by decide +kernel
theorem d_T_isBlock_14 : decode b_T_isBlock 14 = .ok (.getfield 36, 3) := by decide +kernel
theorem d_T_isBlock_17 : decode b_T_isBlock 17 = .ok (.iload_n 1, 1) := by decide +kernel
theorem d_T_isBlock_18 : decode b_T_isBlock 18 = .ok (.iaload, 1) := by decide +kernel
theorem d_T_isBlock_19 : decode b_T_isBlock 19 = .ok (.if_icmp .ge 7, 3) := by decide +kernel
theorem d_T_isBlock_22 : decode b_T_isBlock 22 = .ok (.iconst 1, 1) := by decide +kernel
theorem d_T_isBlock_23 : decode b_T_isBlock 23 = .ok (.goto 4, 3) := by decide +kernel
theorem d_T_isBlock_26 : decode b_T_isBlock 26 = .ok (.iconst 0, 1) := by decide +kernel
theorem d_T_isBlock_27 : decode b_T_isBlock 27 = .ok (.ireturn, 1) := by decide +kernel
theorem d_T_rowOf_0 : decode b_T_rowOf 0 = .ok (.iload_n 1, 1) := by decide +kernel
theorem d_T_rowOf_1 : decode b_T_rowOf 1 = .ok (.bipush 20, 2) := by decide +kernel
theorem d_T_rowOf_3 : decode b_T_rowOf 3 = .ok (.imul, 1) := by decide +kernel
theorem d_T_rowOf_4 : decode b_T_rowOf 4 = .ok (.iload_n 2, 1) := by decide +kernel
theorem d_T_rowOf_5 : decode b_T_rowOf 5 = .ok (.iadd, 1) := by decide +kernel
theorem d_T_rowOf_6 : decode b_T_rowOf 6 = .ok (.ireturn, 1) := by decide +kernel
theorem d_T_wholeLength_0 : decode b_T_wholeLength 0 = .ok (.aload_n 0, 1) := by decide +kernel
theorem d_T_wholeLength_1 : decode b_T_wholeLength 1 = .ok (.getfield 40, 3) := by decide +kernel
theorem d_T_wholeLength_4 : decode b_T_wholeLength 4 = .ok (.iload_n 1, 1) := by decide +kernel
theorem d_T_wholeLength_5 : decode b_T_wholeLength 5 = .ok (.iaload, 1) := by decide +kernel
theorem d_T_wholeLength_6 : decode b_T_wholeLength 6 = .ok (.iconst 2, 1) := by decide +kernel
theorem d_T_wholeLength_7 : decode b_T_wholeLength 7 = .ok (.aload_n 0, 1) := by decide +kernel
theorem d_T_wholeLength_8 : decode b_T_wholeLength 8 = .ok (.getfield 46, 3) := by decide +kernel
theorem d_T_wholeLength_11 : decode b_T_wholeLength 11 = .ok (.iload_n 1, 1) := by decide +kernel
theorem d_T_wholeLength_12 : decode b_T_wholeLength 12 = .ok (.iaload, 1) := by decide +kernel
theorem d_T_wholeLength_13 : decode b_T_wholeLength 13 = .ok (.imul, 1) := by decide +kernel
theorem d_T_wholeLength_14 : decode b_T_wholeLength 14 = .ok (.iadd, 1) := by decide +kernel
theorem d_T_wholeLength_15 : decode b_T_wholeLength 15 = .ok (.ireturn, 1) := by decide +kernel
theorem d_T_totalOf_0 : decode b_T_totalOf 0 = .ok (.iconst 0, 1) := by decide +kernel
theorem d_T_totalOf_1 : decode b_T_totalOf 1 = .ok (.istore_n 3, 1) := by decide +kernel
theorem d_T_totalOf_2 : decode b_T_totalOf 2 = .ok (.iconst 0, 1) := by decide +kernel
theorem d_T_totalOf_3 : decode b_T_totalOf 3 = .ok (.istore 4, 2) := by decide +kernel
theorem d_T_totalOf_5 : decode b_T_totalOf 5 = .ok (.iload 4, 2) := by decide +kernel
theorem d_T_totalOf_7 : decode b_T_totalOf 7 = .ok (.aload_n 0, 1) := by decide +kernel
theorem d_T_totalOf_8 : decode b_T_totalOf 8 = .ok (.getfield 36, 3) := by decide +kernel
theorem d_T_totalOf_11 : decode b_T_totalOf 11 = .ok (.iload_n 2, 1) := by decide +kernel
theorem d_T_totalOf_12 : decode b_T_totalOf 12 = .ok (.iaload, 1) := by decide +kernel
theorem d_T_totalOf_13 : decode b_T_totalOf 13 = .ok (.if_icmp .ge 21, 3) := by decide +kernel
theorem d_T_totalOf_16 : decode b_T_totalOf 16 = .ok (.iload_n 3, 1) := by decide +kernel
theorem d_T_totalOf_17 : decode b_T_totalOf 17 = .ok (.aload_n 1, 1) := by decide +kernel
theorem d_T_totalOf_18 : decode b_T_totalOf 18 = .ok (.aload_n 0, 1) := by decide +kernel
theorem d_T_totalOf_19 : decode b_T_totalOf 19 = .ok (.iload_n 2, 1) := by decide +kernel
theorem d_T_totalOf_20 : decode b_T_totalOf 20 = .ok (.iload 4, 2) := by decide +kernel
theorem d_T_totalOf_22 : decode b_T_totalOf 22 = .ok (.invokevirtual 82, 3) := by decide +kernel
theorem d_T_totalOf_25 : decode b_T_totalOf 25 = .ok (.iaload, 1) := by decide +kernel
theorem d_T_totalOf_26 : decode b_T_totalOf 26 = .ok (.iadd, 1) := by decide +kernel
theorem d_T_totalOf_27 : decode b_T_totalOf 27 = .ok (.istore_n 3, 1) := by decide +kernel
theorem d_T_totalOf_28 : decode b_T_totalOf 28 = .ok (.iinc 4 1, 3) := by decide +kernel
theorem d_T_totalOf_31 : decode b_T_totalOf 31 = .ok (.goto (-26), 3) := by decide +kernel
theorem d_T_totalOf_34 : decode b_T_totalOf 34 = .ok (.iload_n 3, 1) := by decide +kernel
theorem d_T_totalOf_35 : decode b_T_totalOf 35 = .ok (.ireturn, 1) := by decide +kernel
theorem d_T_feetOfFirst_0 : decode b_T_feetOfFirst 0 = .ok (.iconst 0, 1) := by decide +kernel
theorem d_T_feetOfFirst_1 : decode b_T_feetOfFirst 1 = .ok (.istore_n 3, 1) := by decide +kernel
theorem d_T_feetOfFirst_2 : decode b_T_feetOfFirst 2 = .ok (.iconst 0, 1) := by decide +kernel
theorem d_T_feetOfFirst_3 : decode b_T_feetOfFirst 3 = .ok (.istore 4, 2) := by decide +kernel
theorem d_T_feetOfFirst_5 : decode b_T_feetOfFirst 5 = .ok (.iload 4, 2) := by decide +kernel
theorem d_T_feetOfFirst_7 : decode b_T_feetOfFirst 7 = .ok (.iload_n 2, 1) := by decide +kernel
theorem d_T_feetOfFirst_8 : decode b_T_feetOfFirst 8 = .ok (.if_icmp .ge 23, 3) := by decide +kernel
theorem d_T_feetOfFirst_11 : decode b_T_feetOfFirst 11 = .ok (.iload_n 3, 1) := by decide +kernel
theorem d_T_feetOfFirst_12 : decode b_T_feetOfFirst 12 = .ok (.aload_n 0, 1) := by decide +kernel
theorem d_T_feetOfFirst_13 : decode b_T_feetOfFirst 13 = .ok (.aload_n 0, 1) := by decide +kernel
theorem d_T_feetOfFirst_14 : decode b_T_feetOfFirst 14 = .ok (.iload_n 1, 1) := by decide +kernel
theorem d_T_feetOfFirst_15 : decode b_T_feetOfFirst 15 = .ok (.iload 4, 2) := by decide +kernel
theorem d_T_feetOfFirst_17 : decode b_T_feetOfFirst 17 = .ok (.invokevirtual 82, 3) := by decide +kernel
theorem d_T_feetOfFirst_20 : decode b_T_feetOfFirst 20 = .ok (.invokevirtual 113, 3) := by decide +kernel
theorem d_T_feetOfFirst_23 : decode b_T_feetOfFirst 23 = .ok (.iadd, 1) := by decide +kernel
theorem d_T_feetOfFirst_24 : decode b_T_feetOfFirst 24 = .ok (.istore_n 3, 1) := by decide +kernel
theorem d_T_feetOfFirst_25 : decode b_T_feetOfFirst 25 = .ok (.iinc 4 1, 3) := by decide +kernel
theorem d_T_feetOfFirst_28 : decode b_T_feetOfFirst 28 = .ok (.goto (-23), 3) := by decide +kernel
theorem d_T_feetOfFirst_31 : decode b_T_feetOfFirst 31 = .ok (.iload_n 3, 1) := by decide +kernel
theorem d_T_feetOfFirst_32 : decode b_T_feetOfFirst 32 = .ok (.ireturn, 1) := by decide +kernel
theorem d_T_gap_0 : decode b_T_gap 0 = .ok (.aload_n 0, 1) := by decide +kernel
theorem d_T_gap_1 : decode b_T_gap 1 = .ok (.getfield 9, 3) := by decide +kernel
theorem d_T_gap_4 : decode b_T_gap 4 = .ok (.aload_n 0, 1) := by decide +kernel
theorem d_T_gap_5 : decode b_T_gap 5 = .ok (.iconst 0, 1) := by decide +kernel
theorem d_T_gap_6 : decode b_T_gap 6 = .ok (.aload_n 0, 1) := by decide +kernel
theorem d_T_gap_7 : decode b_T_gap 7 = .ok (.getfield 36, 3) := by decide +kernel
theorem d_T_gap_10 : decode b_T_gap 10 = .ok (.iconst 0, 1) := by decide +kernel
theorem d_T_gap_11 : decode b_T_gap 11 = .ok (.iaload, 1) := by decide +kernel
theorem d_T_gap_12 : decode b_T_gap 12 = .ok (.invokevirtual 106, 3) := by decide +kernel
theorem d_T_gap_15 : decode b_T_gap 15 = .ok (.isub, 1) := by decide +kernel
theorem d_T_gap_16 : decode b_T_gap 16 = .ok (.aload_n 0, 1) := by decide +kernel
theorem d_T_gap_17 : decode b_T_gap 17 = .ok (.iconst 1, 1) := by decide +kernel
theorem d_T_gap_18 : decode b_T_gap 18 = .ok (.aload_n 0, 1) := by decide +kernel
theorem d_T_gap_19 : decode b_T_gap 19 = .ok (.getfield 36, 3) := by decide +kernel
theorem d_T_gap_22 : decode b_T_gap 22 = .ok (.iconst 1, 1) := by decide +kernel
theorem d_T_gap_23 : decode b_T_gap 23 = .ok (.iaload, 1) := by decide +kernel
theorem d_T_gap_24 : decode b_T_gap 24 = .ok (.invokevirtual 106, 3) := by decide +kernel
theorem d_T_gap_27 : decode b_T_gap 27 = .ok (.isub, 1) := by decide +kernel
theorem d_T_gap_28 : decode b_T_gap 28 = .ok (.ireturn, 1) := by decide +kernel
theorem d_T_endInGap_0 : decode b_T_endInGap 0 = .ok (.aload_n 0, 1) := by decide +kernel
theorem d_T_endInGap_1 : decode b_T_endInGap 1 = .ok (.iload_n 1, 1) := by decide +kernel
theorem d_T_endInGap_2 : decode b_T_endInGap 2 = .ok (.aload_n 0, 1) := by decide +kernel
theorem d_T_endInGap_3 : decode b_T_endInGap 3 = .ok (.getfield 36, 3) := by decide +kernel
theorem d_T_endInGap_6 : decode b_T_endInGap 6 = .ok (.iload_n 1, 1) := by decide +kernel
theorem d_T_endInGap_7 : decode b_T_endInGap 7 = .ok (.iaload, 1) := by decide +kernel
theorem d_T_endInGap_8 : decode b_T_endInGap 8 = .ok (.invokevirtual 106, 3) := by decide +kernel
theorem d_T_endInGap_11 : decode b_T_endInGap 11 = .ok (.istore_n 2, 1) := by decide +kernel
theorem d_T_endInGap_12 : decode b_T_endInGap 12 = .ok (.iload_n 1, 1) := by decide +kernel
theorem d_T_endInGap_13 : decode b_T_endInGap 13 = .ok (.ifCond .ne 7, 3) := by decide +kernel
theorem d_T_endInGap_16 : decode b_T_endInGap 16 = .ok (.iload_n 2, 1) := by decide +kernel
theorem d_T_endInGap_17 : decode b_T_endInGap 17 = .ok (.goto 9, 3) := by decide +kernel
theorem d_T_endInGap_20 : decode b_T_endInGap 20 = .ok (.aload_n 0, 1) := by decide +kernel
theorem d_T_endInGap_21 : decode b_T_endInGap 21 = .ok (.getfield 9, 3) := by decide +kernel
theorem d_T_endInGap_24 : decode b_T_endInGap 24 = .ok (.iload_n 2, 1) := by decide +kernel
theorem d_T_endInGap_25 : decode b_T_endInGap 25 = .ok (.isub, 1) := by decide +kernel
theorem d_T_endInGap_26 : decode b_T_endInGap 26 = .ok (.ireturn, 1) := by decide +kernel
theorem d_T_isInGap_0 : decode b_T_isInGap 0 = .ok (.iload_n 1, 1) := by decide +kernel
theorem d_T_isInGap_1 : decode b_T_isInGap 1 = .ok (.aload_n 0, 1) := by decide +kernel
theorem d_T_isInGap_2 : decode b_T_isInGap 2 = .ok (.iconst 0, 1) := by decide +kernel
theorem d_T_isInGap_3 : decode b_T_isInGap 3 = .ok (.invokevirtual 75, 3) := by decide +kernel
theorem d_T_isInGap_6 : decode b_T_isInGap 6 = .ok (.if_icmp .lt 16, 3) := by decide +kernel
theorem d_T_isInGap_9 : decode b_T_isInGap 9 = .ok (.iload_n 2, 1) := by decide +kernel
theorem d_T_isInGap_10 : decode b_T_isInGap 10 = .ok (.aload_n 0, 1) := by decide +kernel
theorem d_T_isInGap_11 : decode b_T_isInGap 11 = .ok (.iconst 1, 1) := by decide +kernel
theorem d_T_isInGap_12 : decode b_T_isInGap 12 = .ok (.invokevirtual 75, 3) := by decide +kernel
theorem d_T_isInGap_15 : decode b_T_isInGap 15 = .ok (.if_icmp .gt 7, 3) := by decide +kernel
theorem d_T_isInGap_18 : decode b_T_isInGap 18 = .ok (.iconst 1, 1) := by decide +kernel
theorem d_T_isInGap_19 : decode b_T_isInGap 19 = .ok (.goto 4, 3) := by decide +kernel
theorem d_T_isInGap_22 : decode b_T_isInGap 22 = .ok (.iconst 0, 1) := by decide +kernel
theorem d_T_isInGap_23 : decode b_T_isInGap 23 = .ok (.ireturn, 1) := by decide +kernel
theorem d_T_lowerEnd_0 : decode b_T_lowerEnd 0 = .ok (.iload_n 1, 1) := by decide +kernel
theorem d_T_lowerEnd_1 : decode b_T_lowerEnd 1 = .ok (.ifCond .ne 12, 3) := by decide +kernel
theorem d_T_lowerEnd_4 : decode b_T_lowerEnd 4 = .ok (.aload_n 0, 1) := by decide +kernel
theorem d_T_lowerEnd_5 : decode b_T_lowerEnd 5 = .ok (.iload_n 1, 1) := by decide +kernel
theorem d_T_lowerEnd_6 : decode b_T_lowerEnd 6 = .ok (.iload_n 2, 1) := by decide +kernel
theorem d_T_lowerEnd_7 : decode b_T_lowerEnd 7 = .ok (.invokevirtual 106, 3) := by decide +kernel
theorem d_T_lowerEnd_10 : decode b_T_lowerEnd 10 = .ok (.goto 16, 3) := by decide +kernel
theorem d_T_lowerEnd_13 : decode b_T_lowerEnd 13 = .ok (.aload_n 0, 1) := by decide +kernel
theorem d_T_lowerEnd_14 : decode b_T_lowerEnd 14 = .ok (.getfield 9, 3) := by decide +kernel
theorem d_T_lowerEnd_17 : decode b_T_lowerEnd 17 = .ok (.aload_n 0, 1) := by decide +kernel
theorem d_T_lowerEnd_18 : decode b_T_lowerEnd 18 = .ok (.iload_n 1, 1) := by decide +kernel
theorem d_T_lowerEnd_19 : decode b_T_lowerEnd 19 = .ok (.iload_n 2, 1) := by decide +kernel
theorem d_T_lowerEnd_20 : decode b_T_lowerEnd 20 = .ok (.iconst 1, 1) := by decide +kernel
theorem d_T_lowerEnd_21 : decode b_T_lowerEnd 21 = .ok (.iadd, 1) := by decide +kernel
theorem d_T_lowerEnd_22 : decode b_T_lowerEnd 22 = .ok (.invokevirtual 106, 3) := by decide +kernel
theorem d_T_lowerEnd_25 : decode b_T_lowerEnd 25 = .ok (.isub, 1) := by decide +kernel
theorem d_T_lowerEnd_26 : decode b_T_lowerEnd 26 = .ok (.ireturn, 1) := by decide +kernel
theorem d_T_startOfReading_0 : decode b_T_startOfReading 0 = .ok (.aload_n 0, 1) := by decide +kernel
theorem d_T_startOfReading_1 : decode b_T_startOfReading 1 = .ok (.iload_n 1, 1) := by decide +kernel
theorem d_T_startOfReading_2 : decode b_T_startOfReading 2 = .ok (.iload_n 2, 1) := by decide +kernel
theorem d_T_startOfReading_3 : decode b_T_startOfReading 3 = .ok (.invokevirtual 116, 3) := by decide +kernel
theorem d_T_startOfReading_6 : decode b_T_startOfReading 6 = .ok (.istore 4, 2) := by decide +kernel
theorem d_T_startOfReading_8 : decode b_T_startOfReading 8 = .ok (.iload_n 1, 1) := by decide +kernel
theorem d_T_startOfReading_9 : decode b_T_startOfReading 9 = .ok (.iload_n 3, 1) := by decide +kernel
theorem d_T_startOfReading_10 : decode b_T_startOfReading 10 = .ok (.if_icmp .ne 8, 3) := by decide +kernel
theorem d_T_startOfReading_13 : decode b_T_startOfReading 13 = .ok (.iload 4, 2) := by decide +kernel
theorem d_T_startOfReading_15 : decode b_T_startOfReading 15 = .ok (.goto 16, 3) := by decide +kernel
theorem d_T_startOfReading_18 : decode b_T_startOfReading 18 = .ok (.iload 4, 2) := by decide +kernel
theorem d_T_startOfReading_20 : decode b_T_startOfReading 20 = .ok (.aload_n 0, 1) := by decide +kernel
theorem d_T_startOfReading_21 : decode b_T_startOfReading 21 = .ok (.aload_n 0, 1) := by decide +kernel
theorem d_T_startOfReading_22 : decode b_T_startOfReading 22 = .ok (.iload_n 1, 1) := by decide +kernel
theorem d_T_startOfReading_23 : decode b_T_startOfReading 23 = .ok (.iload_n 2, 1) := by decide +kernel
theorem d_T_startOfReading_24 : decode b_T_startOfReading 24 = .ok (.invokevirtual 82, 3) := by decide +kernel
theorem d_T_startOfReading_27 : decode b_T_startOfReading 27 = .ok (.invokevirtual 113, 3) := by decide +kernel
theorem d_T_startOfReading_30 : decode b_T_startOfReading 30 = .ok (.iadd, 1) := by decide +kernel
theorem d_T_startOfReading_31 : decode b_T_startOfReading 31 = .ok (.ireturn, 1) := by decide +kernel
theorem d_T_travelToRead_0 : decode b_T_travelToRead 0 = .ok (.aload_n 0, 1) := by decide +kernel
theorem d_T_travelToRead_1 : decode b_T_travelToRead 1 = .ok (.iload_n 1, 1) := by decide +kernel
theorem d_T_travelToRead_2 : decode b_T_travelToRead 2 = .ok (.iload_n 2, 1) := by decide +kernel
theorem d_T_travelToRead_3 : decode b_T_travelToRead 3 = .ok (.iload_n 3, 1) := by decide +kernel
theorem d_T_travelToRead_4 : decode b_T_travelToRead 4 = .ok (.invokevirtual 89, 3) := by decide +kernel
theorem d_T_travelToRead_7 : decode b_T_travelToRead 7 = .ok (.aload_n 0, 1) := by decide +kernel
theorem d_T_travelToRead_8 : decode b_T_travelToRead 8 = .ok (.getfield 21, 3) := by decide +kernel
theorem d_T_travelToRead_11 : decode b_T_travelToRead 11 = .ok (.isub, 1) := by decide +kernel
theorem d_T_travelToRead_12 : decode b_T_travelToRead 12 = .ok (.invokestatic 102, 3) := by decide +kernel
theorem d_T_travelToRead_15 : decode b_T_travelToRead 15 = .ok (.aload_n 0, 1) := by decide +kernel
theorem d_T_travelToRead_16 : decode b_T_travelToRead 16 = .ok (.aload_n 0, 1) := by decide +kernel
theorem d_T_travelToRead_17 : decode b_T_travelToRead 17 = .ok (.iload_n 1, 1) := by decide +kernel
theorem d_T_travelToRead_18 : decode b_T_travelToRead 18 = .ok (.iload_n 2, 1) := by decide +kernel
theorem d_T_travelToRead_19 : decode b_T_travelToRead 19 = .ok (.invokevirtual 82, 3) := by decide +kernel
theorem d_T_travelToRead_22 : decode b_T_travelToRead 22 = .ok (.invokevirtual 113, 3) := by decide +kernel
theorem d_T_travelToRead_25 : decode b_T_travelToRead 25 = .ok (.iadd, 1) := by decide +kernel
theorem d_T_travelToRead_26 : decode b_T_travelToRead 26 = .ok (.ireturn, 1) := by decide +kernel
theorem d_T_rowWithData_0 : decode b_T_rowWithData 0 = .ok (.iconst 0, 1) := by decide +kernel
theorem d_T_rowWithData_1 : decode b_T_rowWithData 1 = .ok (.istore_n 3, 1) := by decide +kernel
theorem d_T_rowWithData_2 : decode b_T_rowWithData 2 = .ok (.iload_n 3, 1) := by decide +kernel
theorem d_T_rowWithData_3 : decode b_T_rowWithData 3 = .ok (.iconst 2, 1) := by decide +kernel
theorem d_T_rowWithData_4 : decode b_T_rowWithData 4 = .ok (.if_icmp .ge 78, 3) := by decide +kernel
theorem d_T_rowWithData_7 : decode b_T_rowWithData 7 = .ok (.iconst 0, 1) := by decide +kernel
theorem d_T_rowWithData_8 : decode b_T_rowWithData 8 = .ok (.istore 4, 2) := by decide +kernel
theorem d_T_rowWithData_10 : decode b_T_rowWithData 10 = .ok (.iload 4, 2) := by decide +kernel
theorem d_T_rowWithData_12 : decode b_T_rowWithData 12 = .ok (.aload_n 0, 1) := by decide +kernel
theorem d_T_rowWithData_13 : decode b_T_rowWithData 13 = .ok (.getfield 36, 3) := by decide +kernel
theorem d_T_rowWithData_16 : decode b_T_rowWithData 16 = .ok (.iload_n 3, 1) := by decide +kernel
theorem d_T_rowWithData_17 : decode b_T_rowWithData 17 = .ok (.iaload, 1) := by decide +kernel
theorem d_T_rowWithData_18 : decode b_T_rowWithData 18 = .ok (.if_icmp .ge 58, 3) := by decide +kernel
theorem d_T_rowWithData_21 : decode b_T_rowWithData 21 = .ok (.aload_n 0, 1) := by decide +kernel
theorem d_T_rowWithData_22 : decode b_T_rowWithData 22 = .ok (.iload_n 3, 1) := by decide +kernel
theorem d_T_rowWithData_23 : decode b_T_rowWithData 23 = .ok (.iload 4, 2) := by decide +kernel
theorem d_T_rowWithData_25 : decode b_T_rowWithData 25 = .ok (.invokevirtual 82, 3) := by decide +kernel
theorem d_T_rowWithData_28 : decode b_T_rowWithData 28 = .ok (.istore 5, 2) := by decide +kernel
theorem d_T_rowWithData_30 : decode b_T_rowWithData 30 = .ok (.aload_n 0, 1) := by decide +kernel
theorem d_T_rowWithData_31 : decode b_T_rowWithData 31 = .ok (.iload_n 3, 1) := by decide +kernel
theorem d_T_rowWithData_32 : decode b_T_rowWithData 32 = .ok (.iload 4, 2) := by decide +kernel
theorem d_T_rowWithData_34 : decode b_T_rowWithData 34 = .ok (.invokevirtual 116, 3) := by decide +kernel
theorem d_T_rowWithData_37 : decode b_T_rowWithData 37 = .ok (.aload_n 0, 1) := by decide +kernel
theorem d_T_rowWithData_38 : decode b_T_rowWithData 38 = .ok (.getfield 46, 3) := by decide +kernel
theorem d_T_rowWithData_41 : decode b_T_rowWithData 41 = .ok (.iload 5, 2) := by decide +kernel
theorem d_T_rowWithData_43 : decode b_T_rowWithData 43 = .ok (.iaload, 1) := by decide +kernel
theorem d_T_rowWithData_44 : decode b_T_rowWithData 44 = .ok (.iadd, 1) := by decide +kernel
theorem d_T_rowWithData_45 : decode b_T_rowWithData 45 = .ok (.istore 6, 2) := by decide +kernel
theorem d_T_rowWithData_47 : decode b_T_rowWithData 47 = .ok (.iload_n 1, 1) := by decide +kernel
theorem d_T_rowWithData_48 : decode b_T_rowWithData 48 = .ok (.iload 6, 2) := by decide +kernel
theorem d_T_rowWithData_50 : decode b_T_rowWithData 50 = .ok (.if_icmp .lt 20, 3) := by decide +kernel
theorem d_T_rowWithData_53 : decode b_T_rowWithData 53 = .ok (.iload_n 2, 1) := by decide +kernel
theorem d_T_rowWithData_54 : decode b_T_rowWithData 54 = .ok (.iload 6, 2) := by decide +kernel
theorem d_T_rowWithData_56 : decode b_T_rowWithData 56 = .ok (.aload_n 0, 1) := by decide +kernel
theorem d_T_rowWithData_57 : decode b_T_rowWithData 57 = .ok (.getfield 40, 3) := by decide +kernel
theorem d_T_rowWithData_60 : decode b_T_rowWithData 60 = .ok (.iload 5, 2) := by decide +kernel
theorem d_T_rowWithData_62 : decode b_T_rowWithData 62 = .ok (.iaload, 1) := by decide +kernel
theorem d_T_rowWithData_63 : decode b_T_rowWithData 63 = .ok (.iadd, 1) := by decide +kernel
theorem d_T_rowWithData_64 : decode b_T_rowWithData 64 = .ok (.if_icmp .gt 6, 3) := by decide +kernel
theorem d_T_rowWithData_67 : decode b_T_rowWithData 67 = .ok (.iload 5, 2) := by decide +kernel
theorem d_T_rowWithData_69 : decode b_T_rowWithData 69 = .ok (.ireturn, 1) := by decide +kernel
theorem d_T_rowWithData_70 : decode b_T_rowWithData 70 = .ok (.iinc 4 1, 3) := by decide +kernel
theorem d_T_rowWithData_73 : decode b_T_rowWithData 73 = .ok (.goto (-63), 3) := by decide +kernel
theorem d_T_rowWithData_76 : decode b_T_rowWithData 76 = .ok (.iinc 3 1, 3) := by decide +kernel
theorem d_T_rowWithData_79 : decode b_T_rowWithData 79 = .ok (.goto (-77), 3) := by decide +kernel
theorem d_T_rowWithData_82 : decode b_T_rowWithData 82 = .ok (.iconst (-1), 1) := by decide +kernel
theorem d_T_rowWithData_83 : decode b_T_rowWithData 83 = .ok (.ireturn, 1) := by decide +kernel
