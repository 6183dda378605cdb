theorem dX8_init_0 : decode cX8_init 0 = .ok (.aload_n 0, 1) := by decide +kernel
theorem dX8_init_1 : decode cX8_init 1 = .ok (.invokespecial 1, 3) := by decide +kernel
theorem dX8_init_4 : decode cX8_init 4 = .ok (.aload_n 0, 1) := by decide +kernel
theorem dX8_init_5 : decode cX8_init 5 = .ok (.bipush 80, 2) := by decide +kernel
theorem dX8_init_7 : decode cX8_init 7 = .ok (.newarray .int, 2) := by decide +kernel
theorem dX8_init_9 : decode cX8_init 9 = .ok (.putfield 7, 3) := by decide +kernel
theorem dX8_init_12 : decode cX8_init 12 = .ok (.aload_n 0, 1) := by decide +kernel
theorem dX8_init_13 : decode cX8_init 13 = .ok (.bipush 60, 2) := by decide +kernel
theorem dX8_init_15 : decode cX8_init 15 = .ok (.newarray .boolean, 2) := by decide +kernel
theorem dX8_init_17 : decode cX8_init 17 = .ok (.putfield 13, 3) := by decide +kernel
theorem dX8_init_20 : decode cX8_init 20 = .ok (.aload_n 0, 1) := by decide +kernel
theorem dX8_init_21 : decode cX8_init 21 = .ok (.bipush 60, 2) := by decide +kernel
theorem dX8_init_23 : decode cX8_init 23 = .ok (.newarray .int, 2) := by decide +kernel
theorem dX8_init_25 : decode cX8_init 25 = .ok (.putfield 17, 3) := by decide +kernel
theorem dX8_init_28 : decode cX8_init 28 = .ok (.aload_n 0, 1) := by decide +kernel
theorem dX8_init_29 : decode cX8_init 29 = .ok (.sipush 180, 3) := by decide +kernel
theorem dX8_init_32 : decode cX8_init 32 = .ok (.newarray .long, 2) := by decide +kernel
theorem dX8_init_34 : decode cX8_init 34 = .ok (.putfield 20, 3) := by decide +kernel
theorem dX8_init_37 : decode cX8_init 37 = .ok (.aload_n 0, 1) := by decide +kernel
theorem dX8_init_38 : decode cX8_init 38 = .ok (.bipush 60, 2) := by decide +kernel
theorem dX8_init_40 : decode cX8_init 40 = .ok (.newarray .int, 2) := by decide +kernel
theorem dX8_init_42 : decode cX8_init 42 = .ok (.putfield 24, 3) := by decide +kernel
theorem dX8_init_45 : decode cX8_init 45 = .ok (.aload_n 0, 1) := by decide +kernel
theorem dX8_init_46 : decode cX8_init 46 = .ok (.bipush 60, 2) := by decide +kernel
theorem dX8_init_48 : decode cX8_init 48 = .ok (.newarray .int, 2) := by decide +kernel
theorem dX8_init_50 : decode cX8_init 50 = .ok (.putfield 27, 3) := by decide +kernel
theorem dX8_init_53 : decode cX8_init 53 = .ok (.aload_n 0, 1) := by decide +kernel
theorem dX8_init_54 : decode cX8_init 54 = .ok (.sipush 480, 3) := by decide +kernel
theorem dX8_init_57 : decode cX8_init 57 = .ok (.newarray .long, 2) := by decide +kernel
theorem dX8_init_59 : decode cX8_init 59 = .ok (.putfield 30, 3) := by decide +kernel
theorem dX8_init_62 : decode cX8_init 62 = .ok (.aload_n 0, 1) := by decide +kernel
theorem dX8_init_63 : decode cX8_init 63 = .ok (.bipush 6, 2) := by decide +kernel
theorem dX8_init_65 : decode cX8_init 65 = .ok (.newarray .int, 2) := by decide +kernel
theorem dX8_init_67 : decode cX8_init 67 = .ok (.putfield 33, 3) := by decide +kernel
theorem dX8_init_70 : decode cX8_init 70 = .ok (.aload_n 0, 1) := by decide +kernel
theorem dX8_init_71 : decode cX8_init 71 = .ok (.bipush 6, 2) := by decide +kernel
theorem dX8_init_73 : decode cX8_init 73 = .ok (.newarray .int, 2) := by decide +kernel
theorem dX8_init_75 : decode cX8_init 75 = .ok (.putfield 36, 3) := by decide +kernel
theorem dX8_init_78 : decode cX8_init 78 = .ok (.aload_n 0, 1) := by decide +kernel
theorem dX8_init_79 : decode cX8_init 79 = .ok (.bipush 24, 2) := by decide +kernel
theorem dX8_init_81 : decode cX8_init 81 = .ok (.newarray .int, 2) := by decide +kernel
theorem dX8_init_83 : decode cX8_init 83 = .ok (.putfield 39, 3) := by decide +kernel
theorem dX8_init_86 : decode cX8_init 86 = .ok (.aload_n 0, 1) := by decide +kernel
theorem dX8_init_87 : decode cX8_init 87 = .ok (.sipush 1440, 3) := by decide +kernel
theorem dX8_init_90 : decode cX8_init 90 = .ok (.newarray .int, 2) := by decide +kernel
theorem dX8_init_92 : decode cX8_init 92 = .ok (.putfield 42, 3) := by decide +kernel
theorem dX8_init_95 : decode cX8_init 95 = .ok (.aload_n 0, 1) := by decide +kernel
theorem dX8_init_96 : decode cX8_init 96 = .ok (.sipush 1440, 3) := by decide +kernel
theorem dX8_init_99 : decode cX8_init 99 = .ok (.newarray .int, 2) := by decide +kernel
theorem dX8_init_101 : decode cX8_init 101 = .ok (.putfield 45, 3) := by decide +kernel
theorem dX8_init_104 : decode cX8_init 104 = .ok (.aload_n 0, 1) := by decide +kernel
theorem dX8_init_105 : decode cX8_init 105 = .ok (.sipush 1080, 3) := by decide +kernel
theorem dX8_init_108 : decode cX8_init 108 = .ok (.newarray .int, 2) := by decide +kernel
theorem dX8_init_110 : decode cX8_init 110 = .ok (.putfield 48, 3) := by decide +kernel
theorem dX8_init_113 : decode cX8_init 113 = .ok (.aload_n 0, 1) := by decide +kernel
theorem dX8_init_114 : decode cX8_init 114 = .ok (.sipush 360, 3) := by decide +kernel
theorem dX8_init_117 : decode cX8_init 117 = .ok (.newarray .boolean, 2) := by decide +kernel
theorem dX8_init_119 : decode cX8_init 119 = .ok (.putfield 51, 3) := by decide +kernel
theorem dX8_init_122 : decode cX8_init 122 = .ok (.aload_n 0, 1) := by decide +kernel
theorem dX8_init_123 : decode cX8_init 123 = .ok (.sipush 240, 3) := by decide +kernel
theorem dX8_init_126 : decode cX8_init 126 = .ok (.newarray .long, 2) := by decide +kernel
theorem dX8_init_128 : decode cX8_init 128 = .ok (.putfield 54, 3) := by decide +kernel
theorem dX8_init_131 : decode cX8_init 131 = .ok (.aload_n 0, 1) := by decide +kernel
theorem dX8_init_132 : decode cX8_init 132 = .ok (.bipush 60, 2) := by decide +kernel
theorem dX8_init_134 : decode cX8_init 134 = .ok (.newarray .boolean, 2) := by decide +kernel
theorem dX8_init_136 : decode cX8_init 136 = .ok (.putfield 57, 3) := by decide +kernel
theorem dX8_init_139 : decode cX8_init 139 = .ok (.aload_n 0, 1) := by decide +kernel
theorem dX8_init_140 : decode cX8_init 140 = .ok (.iconst 4, 1) := by decide +kernel
theorem dX8_init_141 : decode cX8_init 141 = .ok (.newarray .long, 2) := by decide +kernel
theorem dX8_init_143 : decode cX8_init 143 = .ok (.putfield 60, 3) := by decide +kernel
theorem dX8_init_146 : decode cX8_init 146 = .ok (.aload_n 0, 1) := by decide +kernel
theorem dX8_init_147 : decode cX8_init 147 = .ok (.bipush 60, 2) := by decide +kernel
theorem dX8_init_149 : decode cX8_init 149 = .ok (.newarray .int, 2) := by decide +kernel
theorem dX8_init_151 : decode cX8_init 151 = .ok (.putfield 63, 3) := by decide +kernel
theorem dX8_init_154 : decode cX8_init 154 = .ok (.aload_n 0, 1) := by decide +kernel
theorem dX8_init_155 : decode cX8_init 155 = .ok (.bipush 60, 2) := by decide +kernel
theorem dX8_init_157 : decode cX8_init 157 = .ok (.newarray .long, 2) := by decide +kernel
theorem dX8_init_159 : decode cX8_init 159 = .ok (.putfield 66, 3) := by decide +kernel
theorem dX8_init_162 : decode cX8_init 162 = .ok (.aload_n 0, 1) := by decide +kernel
theorem dX8_init_163 : decode cX8_init 163 = .ok (.bipush 60, 2) := by decide +kernel
theorem dX8_init_165 : decode cX8_init 165 = .ok (.newarray .long, 2) := by decide +kernel
theorem dX8_init_167 : decode cX8_init 167 = .ok (.putfield 69, 3) := by decide +kernel
theorem dX8_init_170 : decode cX8_init 170 = .ok (.aload_n 0, 1) := by decide +kernel
theorem dX8_init_171 : decode cX8_init 171 = .ok (.bipush 60, 2) := by decide +kernel
theorem dX8_init_173 : decode cX8_init 173 = .ok (.newarray .long, 2) := by decide +kernel
theorem dX8_init_175 : decode cX8_init 175 = .ok (.putfield 72, 3) := by decide +kernel
theorem dX8_init_178 : decode cX8_init 178 = .ok (.aload_n 0, 1) := by decide +kernel
theorem dX8_init_179 : decode cX8_init 179 = .ok (.bipush 60, 2) := by decide +kernel
theorem dX8_init_181 : decode cX8_init 181 = .ok (.newarray .long, 2) := by decide +kernel
theorem dX8_init_183 : decode cX8_init 183 = .ok (.putfield 75, 3) := by decide +kernel
theorem dX8_init_186 : decode cX8_init 186 = .ok (.aload_n 0, 1) := by decide +kernel
theorem dX8_init_187 : decode cX8_init 187 = .ok (.bipush 60, 2) := by decide +kernel
theorem dX8_init_189 : decode cX8_init 189 = .ok (.newarray .int, 2) := by decide +kernel
theorem dX8_init_191 : decode cX8_init 191 = .ok (.putfield 78, 3) := by decide +kernel
theorem dX8_init_194 : decode cX8_init 194 = .ok (.aload_n 0, 1) := by decide +kernel
theorem dX8_init_195 : decode cX8_init 195 = .ok (.bipush 60, 2) := by decide +kernel
theorem dX8_init_197 : decode cX8_init 197 = .ok (.newarray .long, 2) := by decide +kernel
theorem dX8_init_199 : decode cX8_init 199 = .ok (.putfield 81, 3) := by decide +kernel
theorem dX8_init_202 : decode cX8_init 202 = .ok (.aload_n 0, 1) := by decide +kernel
theorem dX8_init_203 : decode cX8_init 203 = .ok (.bipush 60, 2) := by decide +kernel
theorem dX8_init_205 : decode cX8_init 205 = .ok (.newarray .long, 2) := by decide +kernel
theorem dX8_init_207 : decode cX8_init 207 = .ok (.putfield 84, 3) := by decide +kernel
theorem dX8_init_210 : decode cX8_init 210 = .ok (.aload_n 0, 1) := by decide +kernel
theorem dX8_init_211 : decode cX8_init 211 = .ok (.bipush 60, 2) := by decide +kernel
theorem dX8_init_213 : decode cX8_init 213 = .ok (.newarray .boolean, 2) := by decide +kernel
theorem dX8_init_215 : decode cX8_init 215 = .ok (.putfield 87, 3) := by decide +kernel
theorem dX8_init_218 : decode cX8_init 218 = .ok (.return_, 1) := by decide +kernel
theorem dX8_thrown_0 : decode cX8_thrown 0 = .ok (.aload_n 0, 1) := by decide +kernel
theorem dX8_thrown_1 : decode cX8_thrown 1 = .ok (.getfield 90, 3) := by decide +kernel
theorem dX8_thrown_4 : decode cX8_thrown 4 = .ok (.ireturn, 1) := by decide +kernel
theorem dX8_within_0 : decode cX8_within 0 = .ok (.iload_n 0, 1) := by decide +kernel
theorem dX8_within_1 : decode cX8_within 1 = .ok (.iload_n 1, 1) := by decide +kernel
theorem dX8_within_2 : decode cX8_within 2 = .ok (.if_icmp .lt 12, 3) := by decide +kernel
theorem dX8_within_5 : decode cX8_within 5 = .ok (.iload_n 0, 1) := by decide +kernel
theorem dX8_within_6 : decode cX8_within 6 = .ok (.iload_n 2, 1) := by decide +kernel
theorem dX8_within_7 : decode cX8_within 7 = .ok (.if_icmp .gt 7, 3) := by decide +kernel
theorem dX8_within_10 : decode cX8_within 10 = .ok (.iconst 1, 1) := by decide +kernel
theorem dX8_within_11 : decode cX8_within 11 = .ok (.goto 4, 3) := by decide +kernel
theorem dX8_within_14 : decode cX8_within 14 = .ok (.iconst 0, 1) := by decide +kernel
theorem dX8_within_15 : decode cX8_within 15 = .ok (.ireturn, 1) := by decide +kernel
theorem dX8_isThere_0 : decode cX8_isThere 0 = .ok (.iload_n 1, 1) := by decide +kernel
theorem dX8_isThere_1 : decode cX8_isThere 1 = .ok (.iconst 0, 1) := by decide +kernel
theorem dX8_isThere_2 : decode cX8_isThere 2 = .ok (.aload_n 0, 1) := by decide +kernel
theorem dX8_isThere_3 : decode cX8_isThere 3 = .ok (.getfield 94, 3) := by decide +kernel
theorem dX8_isThere_6 : decode cX8_isThere 6 = .ok (.iconst 1, 1) := by decide +kernel
theorem dX8_isThere_7 : decode cX8_isThere 7 = .ok (.isub, 1) := by decide +kernel
theorem dX8_isThere_8 : decode cX8_isThere 8 = .ok (.invokestatic 97, 3) := by decide +kernel
theorem dX8_isThere_11 : decode cX8_isThere 11 = .ok (.ifCond .eq 16, 3) := by decide +kernel
theorem dX8_isThere_14 : decode cX8_isThere 14 = .ok (.aload_n 0, 1) := by decide +kernel
theorem dX8_isThere_15 : decode cX8_isThere 15 = .ok (.getfield 13, 3) := by decide +kernel
theorem dX8_isThere_18 : decode cX8_isThere 18 = .ok (.iload_n 1, 1) := by decide +kernel
theorem dX8_isThere_19 : decode cX8_isThere 19 = .ok (.baload, 1) := by decide +kernel
theorem dX8_isThere_20 : decode cX8_isThere 20 = .ok (.ifCond .eq 7, 3) := by decide +kernel
theorem dX8_isThere_23 : decode cX8_isThere 23 = .ok (.iconst 1, 1) := by decide +kernel
theorem dX8_isThere_24 : decode cX8_isThere 24 = .ok (.goto 4, 3) := by decide +kernel
theorem dX8_isThere_27 : decode cX8_isThere 27 = .ok (.iconst 0, 1) := by decide +kernel
theorem dX8_isThere_28 : decode cX8_isThere 28 = .ok (.ireturn, 1) := by decide +kernel
theorem dX8_push_0 : decode cX8_push 0 = .ok (.aload_n 0, 1) := by decide +kernel
theorem dX8_push_1 : decode cX8_push 1 = .ok (.getfield 54, 3) := by decide +kernel
theorem dX8_push_4 : decode cX8_push 4 = .ok (.aload_n 0, 1) := by decide +kernel
theorem dX8_push_5 : decode cX8_push 5 = .ok (.getfield 101, 3) := by decide +kernel
theorem dX8_push_8 : decode cX8_push 8 = .ok (.lload_n 1, 1) := by decide +kernel
theorem dX8_push_9 : decode cX8_push 9 = .ok (.lastore, 1) := by decide +kernel
theorem dX8_push_10 : decode cX8_push 10 = .ok (.aload_n 0, 1) := by decide +kernel
theorem dX8_push_11 : decode cX8_push 11 = .ok (.dup, 1) := by decide +kernel
theorem dX8_push_12 : decode cX8_push 12 = .ok (.getfield 101, 3) := by decide +kernel
theorem dX8_push_15 : decode cX8_push 15 = .ok (.iconst 1, 1) := by decide +kernel
theorem dX8_push_16 : decode cX8_push 16 = .ok (.iadd, 1) := by decide +kernel
theorem dX8_push_17 : decode cX8_push 17 = .ok (.putfield 101, 3) := by decide +kernel
theorem dX8_push_20 : decode cX8_push 20 = .ok (.return_, 1) := by decide +kernel
theorem dX8_pop_0 : decode cX8_pop 0 = .ok (.aload_n 0, 1) := by decide +kernel
theorem dX8_pop_1 : decode cX8_pop 1 = .ok (.dup, 1) := by decide +kernel
theorem dX8_pop_2 : decode cX8_pop 2 = .ok (.getfield 101, 3) := by decide +kernel
theorem dX8_pop_5 : decode cX8_pop 5 = .ok (.iconst 1, 1) := by decide +kernel
theorem dX8_pop_6 : decode cX8_pop 6 = .ok (.isub, 1) := by decide +kernel
theorem dX8_pop_7 : decode cX8_pop 7 = .ok (.putfield 101, 3) := by decide +kernel
theorem dX8_pop_10 : decode cX8_pop 10 = .ok (.aload_n 0, 1) := by decide +kernel
theorem dX8_pop_11 : decode cX8_pop 11 = .ok (.getfield 54, 3) := by decide +kernel
theorem dX8_pop_14 : decode cX8_pop 14 = .ok (.aload_n 0, 1) := by decide +kernel
theorem dX8_pop_15 : decode cX8_pop 15 = .ok (.getfield 101, 3) := by decide +kernel
theorem dX8_pop_18 : decode cX8_pop 18 = .ok (.laload, 1) := by decide +kernel
theorem dX8_pop_19 : decode cX8_pop 19 = .ok (.lreturn, 1) := by decide +kernel
theorem dX8_looked_0 : decode cX8_looked 0 = .ok (.aload_n 0, 1) := by decide +kernel
theorem dX8_looked_1 : decode cX8_looked 1 = .ok (.invokevirtual 104, 3) := by decide +kernel
theorem dX8_looked_4 : decode cX8_looked 4 = .ok (.l2i, 1) := by decide +kernel
theorem dX8_looked_5 : decode cX8_looked 5 = .ok (.istore_n 1, 1) := by decide +kernel
theorem dX8_looked_6 : decode cX8_looked 6 = .ok (.iload_n 1, 1) := by decide +kernel
theorem dX8_looked_7 : decode cX8_looked 7 = .ok (.iconst (-1), 1) := by decide +kernel
theorem dX8_looked_8 : decode cX8_looked 8 = .ok (.if_icmp .ne 11, 3) := by decide +kernel
theorem dX8_looked_11 : decode cX8_looked 11 = .ok (.aload_n 0, 1) := by decide +kernel
theorem dX8_looked_12 : decode cX8_looked 12 = .ok (.iconst 1, 1) := by decide +kernel
theorem dX8_looked_13 : decode cX8_looked 13 = .ok (.putfield 108, 3) := by decide +kernel
theorem dX8_looked_16 : decode cX8_looked 16 = .ok (.goto 10, 3) := by decide +kernel
theorem dX8_looked_19 : decode cX8_looked 19 = .ok (.aload_n 0, 1) := by decide +kernel
theorem dX8_looked_20 : decode cX8_looked 20 = .ok (.getfield 57, 3) := by decide +kernel
theorem dX8_looked_23 : decode cX8_looked 23 = .ok (.iload_n 1, 1) := by decide +kernel
theorem dX8_looked_24 : decode cX8_looked 24 = .ok (.iconst 1, 1) := by decide +kernel
theorem dX8_looked_25 : decode cX8_looked 25 = .ok (.bastore, 1) := by decide +kernel
theorem dX8_looked_26 : decode cX8_looked 26 = .ok (.iload_n 1, 1) := by decide +kernel
theorem dX8_looked_27 : decode cX8_looked 27 = .ok (.ireturn, 1) := by decide +kernel
theorem dX8_act_0 : decode cX8_act 0 = .ok (.aload_n 0, 1) := by decide +kernel
theorem dX8_act_1 : decode cX8_act 1 = .ok (.getfield 42, 3) := by decide +kernel
theorem dX8_act_4 : decode cX8_act 4 = .ok (.iload_n 2, 1) := by decide +kernel
theorem dX8_act_5 : decode cX8_act 5 = .ok (.iaload, 1) := by decide +kernel
theorem dX8_act_6 : decode cX8_act 6 = .ok (.istore_n 3, 1) := by decide +kernel
theorem dX8_act_7 : decode cX8_act 7 = .ok (.iload_n 3, 1) := by decide +kernel
theorem dX8_act_8 : decode cX8_act 8 = .ok (.tableswitch 341 0 21 #[104, 118, 127, 341, 341, 341, 186, 217, 243, 316, 341, 341, 341, 341, 341, 341, 341, 341, 341, 341, 341, 328], 104) := by decide +kernel
theorem dX8_act_112 : decode cX8_act 112 = .ok (.aload_n 0, 1) := by decide +kernel
theorem dX8_act_113 : decode cX8_act 113 = .ok (.aload_n 0, 1) := by decide +kernel
theorem dX8_act_114 : decode cX8_act 114 = .ok (.getfield 45, 3) := by decide +kernel
theorem dX8_act_117 : decode cX8_act 117 = .ok (.iload_n 2, 1) := by decide +kernel
theorem dX8_act_118 : decode cX8_act 118 = .ok (.iaload, 1) := by decide +kernel
theorem dX8_act_119 : decode cX8_act 119 = .ok (.i2l, 1) := by decide +kernel
theorem dX8_act_120 : decode cX8_act 120 = .ok (.invokevirtual 112, 3) := by decide +kernel
theorem dX8_act_123 : decode cX8_act 123 = .ok (.goto 293, 3) := by decide +kernel
theorem dX8_act_126 : decode cX8_act 126 = .ok (.aload_n 0, 1) := by decide +kernel
theorem dX8_act_127 : decode cX8_act 127 = .ok (.iload_n 1, 1) := by decide +kernel
theorem dX8_act_128 : decode cX8_act 128 = .ok (.i2l, 1) := by decide +kernel
theorem dX8_act_129 : decode cX8_act 129 = .ok (.invokevirtual 112, 3) := by decide +kernel
theorem dX8_act_132 : decode cX8_act 132 = .ok (.goto 284, 3) := by decide +kernel
theorem dX8_act_135 : decode cX8_act 135 = .ok (.aload_n 0, 1) := by decide +kernel
theorem dX8_act_136 : decode cX8_act 136 = .ok (.invokevirtual 116, 3) := by decide +kernel
theorem dX8_act_139 : decode cX8_act 139 = .ok (.istore 4, 2) := by decide +kernel
theorem dX8_act_141 : decode cX8_act 141 = .ok (.aload_n 0, 1) := by decide +kernel
theorem dX8_act_142 : decode cX8_act 142 = .ok (.iload 4, 2) := by decide +kernel
theorem dX8_act_144 : decode cX8_act 144 = .ok (.iconst (-1), 1) := by decide +kernel
theorem dX8_act_145 : decode cX8_act 145 = .ok (.if_icmp .eq 40, 3) := by decide +kernel
theorem dX8_act_148 : decode cX8_act 148 = .ok (.aload_n 0, 1) := by decide +kernel
theorem dX8_act_149 : decode cX8_act 149 = .ok (.getfield 24, 3) := by decide +kernel
theorem dX8_act_152 : decode cX8_act 152 = .ok (.iload 4, 2) := by decide +kernel
theorem dX8_act_154 : decode cX8_act 154 = .ok (.iaload, 1) := by decide +kernel
theorem dX8_act_155 : decode cX8_act 155 = .ok (.iconst (-1), 1) := by decide +kernel
theorem dX8_act_156 : decode cX8_act 156 = .ok (.if_icmp .eq 29, 3) := by decide +kernel
theorem dX8_act_159 : decode cX8_act 159 = .ok (.aload_n 0, 1) := by decide +kernel
theorem dX8_act_160 : decode cX8_act 160 = .ok (.getfield 13, 3) := by decide +kernel
theorem dX8_act_163 : decode cX8_act 163 = .ok (.aload_n 0, 1) := by decide +kernel
theorem dX8_act_164 : decode cX8_act 164 = .ok (.getfield 24, 3) := by decide +kernel
theorem dX8_act_167 : decode cX8_act 167 = .ok (.iload 4, 2) := by decide +kernel
theorem dX8_act_169 : decode cX8_act 169 = .ok (.iaload, 1) := by decide +kernel
theorem dX8_act_170 : decode cX8_act 170 = .ok (.baload, 1) := by decide +kernel
theorem dX8_act_171 : decode cX8_act 171 = .ok (.ifCond .eq 14, 3) := by decide +kernel
theorem dX8_act_174 : decode cX8_act 174 = .ok (.aload_n 0, 1) := by decide +kernel
theorem dX8_act_175 : decode cX8_act 175 = .ok (.getfield 24, 3) := by decide +kernel
theorem dX8_act_178 : decode cX8_act 178 = .ok (.iload 4, 2) := by decide +kernel
theorem dX8_act_180 : decode cX8_act 180 = .ok (.iaload, 1) := by decide +kernel
theorem dX8_act_181 : decode cX8_act 181 = .ok (.i2l, 1) := by decide +kernel
theorem dX8_act_182 : decode cX8_act 182 = .ok (.goto 6, 3) := by decide +kernel
theorem dX8_act_185 : decode cX8_act 185 = .ok (.ldc2_w 120, 3) := by decide +kernel
theorem dX8_act_188 : decode cX8_act 188 = .ok (.invokevirtual 112, 3) := by decide +kernel
theorem dX8_act_191 : decode cX8_act 191 = .ok (.goto 225, 3) := by decide +kernel
theorem dX8_act_194 : decode cX8_act 194 = .ok (.aload_n 0, 1) := by decide +kernel
theorem dX8_act_195 : decode cX8_act 195 = .ok (.invokevirtual 116, 3) := by decide +kernel
theorem dX8_act_198 : decode cX8_act 198 = .ok (.istore 4, 2) := by decide +kernel
theorem dX8_act_200 : decode cX8_act 200 = .ok (.aload_n 0, 1) := by decide +kernel
theorem dX8_act_201 : decode cX8_act 201 = .ok (.iload 4, 2) := by decide +kernel
theorem dX8_act_203 : decode cX8_act 203 = .ok (.iconst (-1), 1) := by decide +kernel
theorem dX8_act_204 : decode cX8_act 204 = .ok (.if_icmp .ne 7, 3) := by decide +kernel
theorem dX8_act_207 : decode cX8_act 207 = .ok (.lconst 0, 1) := by decide +kernel
theorem dX8_act_208 : decode cX8_act 208 = .ok (.goto 11, 3) := by decide +kernel
theorem dX8_act_211 : decode cX8_act 211 = .ok (.aload_n 0, 1) := by decide +kernel
theorem dX8_act_212 : decode cX8_act 212 = .ok (.getfield 27, 3) := by decide +kernel
theorem dX8_act_215 : decode cX8_act 215 = .ok (.iload 4, 2) := by decide +kernel
theorem dX8_act_217 : decode cX8_act 217 = .ok (.iaload, 1) := by decide +kernel
theorem dX8_act_218 : decode cX8_act 218 = .ok (.i2l, 1) := by decide +kernel
theorem dX8_act_219 : decode cX8_act 219 = .ok (.invokevirtual 112, 3) := by decide +kernel
theorem dX8_act_222 : decode cX8_act 222 = .ok (.goto 194, 3) := by decide +kernel
theorem dX8_act_225 : decode cX8_act 225 = .ok (.aload_n 0, 1) := by decide +kernel
theorem dX8_act_226 : decode cX8_act 226 = .ok (.invokevirtual 116, 3) := by decide +kernel
theorem dX8_act_229 : decode cX8_act 229 = .ok (.istore 4, 2) := by decide +kernel
theorem dX8_act_231 : decode cX8_act 231 = .ok (.aload_n 0, 1) := by decide +kernel
theorem dX8_act_232 : decode cX8_act 232 = .ok (.iload 4, 2) := by decide +kernel
theorem dX8_act_234 : decode cX8_act 234 = .ok (.iconst (-1), 1) := by decide +kernel
theorem dX8_act_235 : decode cX8_act 235 = .ok (.if_icmp .ne 7, 3) := by decide +kernel
theorem dX8_act_238 : decode cX8_act 238 = .ok (.lconst 0, 1) := by decide +kernel
theorem dX8_act_239 : decode cX8_act 239 = .ok (.goto 6, 3) := by decide +kernel
theorem dX8_act_242 : decode cX8_act 242 = .ok (.iload 4, 2) := by decide +kernel
theorem dX8_act_244 : decode cX8_act 244 = .ok (.i2l, 1) := by decide +kernel
theorem dX8_act_245 : decode cX8_act 245 = .ok (.invokevirtual 112, 3) := by decide +kernel
theorem dX8_act_248 : decode cX8_act 248 = .ok (.goto 168, 3) := by decide +kernel
theorem dX8_act_251 : decode cX8_act 251 = .ok (.aload_n 0, 1) := by decide +kernel
theorem dX8_act_252 : decode cX8_act 252 = .ok (.invokevirtual 104, 3) := by decide +kernel
theorem dX8_act_255 : decode cX8_act 255 = .ok (.lstore 5, 2) := by decide +kernel
theorem dX8_act_257 : decode cX8_act 257 = .ok (.aload_n 0, 1) := by decide +kernel
theorem dX8_act_258 : decode cX8_act 258 = .ok (.invokevirtual 116, 3) := by decide +kernel
theorem dX8_act_261 : decode cX8_act 261 = .ok (.istore 4, 2) := by decide +kernel
theorem dX8_act_263 : decode cX8_act 263 = .ok (.iload 4, 2) := by decide +kernel
theorem dX8_act_265 : decode cX8_act 265 = .ok (.iconst (-1), 1) := by decide +kernel
theorem dX8_act_266 : decode cX8_act 266 = .ok (.if_icmp .eq 45, 3) := by decide +kernel
theorem dX8_act_269 : decode cX8_act 269 = .ok (.lload 5, 2) := by decide +kernel
theorem dX8_act_271 : decode cX8_act 271 = .ok (.lconst 0, 1) := by decide +kernel
theorem dX8_act_272 : decode cX8_act 272 = .ok (.lcmp, 1) := by decide +kernel
theorem dX8_act_273 : decode cX8_act 273 = .ok (.ifCond .lt 38, 3) := by decide +kernel
theorem dX8_act_276 : decode cX8_act 276 = .ok (.lload 5, 2) := by decide +kernel
theorem dX8_act_278 : decode cX8_act 278 = .ok (.aload_n 0, 1) := by decide +kernel
theorem dX8_act_279 : decode cX8_act 279 = .ok (.getfield 27, 3) := by decide +kernel
theorem dX8_act_282 : decode cX8_act 282 = .ok (.iload 4, 2) := by decide +kernel
theorem dX8_act_284 : decode cX8_act 284 = .ok (.iaload, 1) := by decide +kernel
theorem dX8_act_285 : decode cX8_act 285 = .ok (.i2l, 1) := by decide +kernel
theorem dX8_act_286 : decode cX8_act 286 = .ok (.lcmp, 1) := by decide +kernel
theorem dX8_act_287 : decode cX8_act 287 = .ok (.ifCond .ge 24, 3) := by decide +kernel
theorem dX8_act_290 : decode cX8_act 290 = .ok (.aload_n 0, 1) := by decide +kernel
theorem dX8_act_291 : decode cX8_act 291 = .ok (.aload_n 0, 1) := by decide +kernel
theorem dX8_act_292 : decode cX8_act 292 = .ok (.getfield 30, 3) := by decide +kernel
theorem dX8_act_295 : decode cX8_act 295 = .ok (.bipush 8, 2) := by decide +kernel
theorem dX8_act_297 : decode cX8_act 297 = .ok (.iload 4, 2) := by decide +kernel
theorem dX8_act_299 : decode cX8_act 299 = .ok (.imul, 1) := by decide +kernel
theorem dX8_act_300 : decode cX8_act 300 = .ok (.lload 5, 2) := by decide +kernel
theorem dX8_act_302 : decode cX8_act 302 = .ok (.l2i, 1) := by decide +kernel
theorem dX8_act_303 : decode cX8_act 303 = .ok (.iadd, 1) := by decide +kernel
theorem dX8_act_304 : decode cX8_act 304 = .ok (.laload, 1) := by decide +kernel
theorem dX8_act_305 : decode cX8_act 305 = .ok (.invokevirtual 112, 3) := by decide +kernel
theorem dX8_act_308 : decode cX8_act 308 = .ok (.goto 108, 3) := by decide +kernel
theorem dX8_act_311 : decode cX8_act 311 = .ok (.aload_n 0, 1) := by decide +kernel
theorem dX8_act_312 : decode cX8_act 312 = .ok (.iconst 1, 1) := by decide +kernel
theorem dX8_act_313 : decode cX8_act 313 = .ok (.putfield 108, 3) := by decide +kernel
theorem dX8_act_316 : decode cX8_act 316 = .ok (.aload_n 0, 1) := by decide +kernel
theorem dX8_act_317 : decode cX8_act 317 = .ok (.lconst 0, 1) := by decide +kernel
theorem dX8_act_318 : decode cX8_act 318 = .ok (.invokevirtual 112, 3) := by decide +kernel
theorem dX8_act_321 : decode cX8_act 321 = .ok (.goto 95, 3) := by decide +kernel
theorem dX8_act_324 : decode cX8_act 324 = .ok (.aload_n 0, 1) := by decide +kernel
theorem dX8_act_325 : decode cX8_act 325 = .ok (.aload_n 0, 1) := by decide +kernel
theorem dX8_act_326 : decode cX8_act 326 = .ok (.invokevirtual 104, 3) := by decide +kernel
theorem dX8_act_329 : decode cX8_act 329 = .ok (.lneg, 1) := by decide +kernel
theorem dX8_act_330 : decode cX8_act 330 = .ok (.invokevirtual 112, 3) := by decide +kernel
theorem dX8_act_333 : decode cX8_act 333 = .ok (.goto 83, 3) := by decide +kernel
theorem dX8_act_336 : decode cX8_act 336 = .ok (.aload_n 0, 1) := by decide +kernel
theorem dX8_act_337 : decode cX8_act 337 = .ok (.lconst 1, 1) := by decide +kernel
theorem dX8_act_338 : decode cX8_act 338 = .ok (.aload_n 0, 1) := by decide +kernel
theorem dX8_act_339 : decode cX8_act 339 = .ok (.invokevirtual 104, 3) := by decide +kernel
theorem dX8_act_342 : decode cX8_act 342 = .ok (.lsub, 1) := by decide +kernel
theorem dX8_act_343 : decode cX8_act 343 = .ok (.invokevirtual 112, 3) := by decide +kernel
theorem dX8_act_346 : decode cX8_act 346 = .ok (.goto 70, 3) := by decide +kernel
theorem dX8_act_349 : decode cX8_act 349 = .ok (.iload_n 3, 1) := by decide +kernel
theorem dX8_act_350 : decode cX8_act 350 = .ok (.bipush 6, 2) := by decide +kernel
theorem dX8_act_352 : decode cX8_act 352 = .ok (.if_icmp .ge 39, 3) := by decide +kernel
theorem dX8_act_355 : decode cX8_act 355 = .ok (.aload_n 0, 1) := by decide +kernel
theorem dX8_act_356 : decode cX8_act 356 = .ok (.invokevirtual 116, 3) := by decide +kernel
theorem dX8_act_359 : decode cX8_act 359 = .ok (.istore 4, 2) := by decide +kernel
theorem dX8_act_361 : decode cX8_act 361 = .ok (.aload_n 0, 1) := by decide +kernel
theorem dX8_act_362 : decode cX8_act 362 = .ok (.iload 4, 2) := by decide +kernel
theorem dX8_act_364 : decode cX8_act 364 = .ok (.iconst (-1), 1) := by decide +kernel
theorem dX8_act_365 : decode cX8_act 365 = .ok (.if_icmp .ne 7, 3) := by decide +kernel
theorem dX8_act_368 : decode cX8_act 368 = .ok (.lconst 0, 1) := by decide +kernel
theorem dX8_act_369 : decode cX8_act 369 = .ok (.goto 16, 3) := by decide +kernel
theorem dX8_act_372 : decode cX8_act 372 = .ok (.aload_n 0, 1) := by decide +kernel
theorem dX8_act_373 : decode cX8_act 373 = .ok (.getfield 20, 3) := by decide +kernel
theorem dX8_act_376 : decode cX8_act 376 = .ok (.iconst 3, 1) := by decide +kernel
theorem dX8_act_377 : decode cX8_act 377 = .ok (.iload 4, 2) := by decide +kernel
theorem dX8_act_379 : decode cX8_act 379 = .ok (.imul, 1) := by decide +kernel
theorem dX8_act_380 : decode cX8_act 380 = .ok (.iload_n 3, 1) := by decide +kernel
theorem dX8_act_381 : decode cX8_act 381 = .ok (.iadd, 1) := by decide +kernel
theorem dX8_act_382 : decode cX8_act 382 = .ok (.iconst 3, 1) := by decide +kernel
theorem dX8_act_383 : decode cX8_act 383 = .ok (.isub, 1) := by decide +kernel
theorem dX8_act_384 : decode cX8_act 384 = .ok (.laload, 1) := by decide +kernel
theorem dX8_act_385 : decode cX8_act 385 = .ok (.invokevirtual 112, 3) := by decide +kernel
theorem dX8_act_388 : decode cX8_act 388 = .ok (.goto 28, 3) := by decide +kernel
theorem dX8_act_391 : decode cX8_act 391 = .ok (.aload_n 0, 1) := by decide +kernel
theorem dX8_act_392 : decode cX8_act 392 = .ok (.invokevirtual 104, 3) := by decide +kernel
theorem dX8_act_395 : decode cX8_act 395 = .ok (.lstore 7, 2) := by decide +kernel
theorem dX8_act_397 : decode cX8_act 397 = .ok (.aload_n 0, 1) := by decide +kernel
theorem dX8_act_398 : decode cX8_act 398 = .ok (.invokevirtual 104, 3) := by decide +kernel
theorem dX8_act_401 : decode cX8_act 401 = .ok (.lstore 5, 2) := by decide +kernel
theorem dX8_act_403 : decode cX8_act 403 = .ok (.aload_n 0, 1) := by decide +kernel
theorem dX8_act_404 : decode cX8_act 404 = .ok (.aload_n 0, 1) := by decide +kernel
theorem dX8_act_405 : decode cX8_act 405 = .ok (.iload_n 3, 1) := by decide +kernel
theorem dX8_act_406 : decode cX8_act 406 = .ok (.lload 5, 2) := by decide +kernel
theorem dX8_act_408 : decode cX8_act 408 = .ok (.lload 7, 2) := by decide +kernel
theorem dX8_act_410 : decode cX8_act 410 = .ok (.invokevirtual 122, 3) := by decide +kernel
theorem dX8_act_413 : decode cX8_act 413 = .ok (.invokevirtual 112, 3) := by decide +kernel
theorem dX8_act_416 : decode cX8_act 416 = .ok (.return_, 1) := by decide +kernel
theorem dX8_reckon_0 : decode cX8_reckon 0 = .ok (.iload_n 1, 1) := by decide +kernel
theorem dX8_reckon_1 : decode cX8_reckon 1 = .ok (.tableswitch 192 10 19 #[55, 60, 65, 70, 70, 135, 148, 161, 174, 187], 55) := by decide +kernel
theorem dX8_reckon_56 : decode cX8_reckon 56 = .ok (.lload_n 2, 1) := by decide +kernel
theorem dX8_reckon_57 : decode cX8_reckon 57 = .ok (.lload 4, 2) := by decide +kernel
theorem dX8_reckon_59 : decode cX8_reckon 59 = .ok (.ladd, 1) := by decide +kernel
theorem dX8_reckon_60 : decode cX8_reckon 60 = .ok (.lreturn, 1) := by decide +kernel
theorem dX8_reckon_61 : decode cX8_reckon 61 = .ok (.lload_n 2, 1) := by decide +kernel
theorem dX8_reckon_62 : decode cX8_reckon 62 = .ok (.lload 4, 2) := by decide +kernel
theorem dX8_reckon_64 : decode cX8_reckon 64 = .ok (.lsub, 1) := by decide +kernel
theorem dX8_reckon_65 : decode cX8_reckon 65 = .ok (.lreturn, 1) := by decide +kernel
theorem dX8_reckon_66 : decode cX8_reckon 66 = .ok (.lload_n 2, 1) := by decide +kernel
theorem dX8_reckon_67 : decode cX8_reckon 67 = .ok (.lload 4, 2) := by decide +kernel
theorem dX8_reckon_69 : decode cX8_reckon 69 = .ok (.lmul, 1) := by decide +kernel
theorem dX8_reckon_70 : decode cX8_reckon 70 = .ok (.lreturn, 1) := by decide +kernel
theorem dX8_reckon_71 : decode cX8_reckon 71 = .ok (.lload 4, 2) := by decide +kernel
theorem dX8_reckon_73 : decode cX8_reckon 73 = .ok (.lconst 0, 1) := by decide +kernel
theorem dX8_reckon_74 : decode cX8_reckon 74 = .ok (.lcmp, 1) := by decide +kernel
theorem dX8_reckon_75 : decode cX8_reckon 75 = .ok (.ifCond .ne 8, 3) := by decide +kernel
theorem dX8_reckon_78 : decode cX8_reckon 78 = .ok (.aload_n 0, 1) := by decide +kernel
theorem dX8_reckon_79 : decode cX8_reckon 79 = .ok (.iconst 1, 1) := by decide +kernel
theorem dX8_reckon_80 : decode cX8_reckon 80 = .ok (.putfield 108, 3) := by decide +kernel
theorem dX8_reckon_83 : decode cX8_reckon 83 = .ok (.lload 4, 2) := by decide +kernel
theorem dX8_reckon_85 : decode cX8_reckon 85 = .ok (.lconst 0, 1) := by decide +kernel
theorem dX8_reckon_86 : decode cX8_reckon 86 = .ok (.lcmp, 1) := by decide +kernel
theorem dX8_reckon_87 : decode cX8_reckon 87 = .ok (.ifCond .ne 7, 3) := by decide +kernel
theorem dX8_reckon_90 : decode cX8_reckon 90 = .ok (.lconst 0, 1) := by decide +kernel
theorem dX8_reckon_91 : decode cX8_reckon 91 = .ok (.goto 44, 3) := by decide +kernel
theorem dX8_reckon_94 : decode cX8_reckon 94 = .ok (.lload 4, 2) := by decide +kernel
theorem dX8_reckon_96 : decode cX8_reckon 96 = .ok (.ldc2_w 120, 3) := by decide +kernel
theorem dX8_reckon_99 : decode cX8_reckon 99 = .ok (.lcmp, 1) := by decide +kernel
theorem dX8_reckon_100 : decode cX8_reckon 100 = .ok (.ifCond .ne 18, 3) := by decide +kernel
theorem dX8_reckon_103 : decode cX8_reckon 103 = .ok (.iload_n 1, 1) := by decide +kernel
theorem dX8_reckon_104 : decode cX8_reckon 104 = .ok (.bipush 13, 2) := by decide +kernel
theorem dX8_reckon_106 : decode cX8_reckon 106 = .ok (.if_icmp .ne 8, 3) := by decide +kernel
theorem dX8_reckon_109 : decode cX8_reckon 109 = .ok (.lload_n 2, 1) := by decide +kernel
theorem dX8_reckon_110 : decode cX8_reckon 110 = .ok (.lneg, 1) := by decide +kernel
theorem dX8_reckon_111 : decode cX8_reckon 111 = .ok (.goto 24, 3) := by decide +kernel
theorem dX8_reckon_114 : decode cX8_reckon 114 = .ok (.lconst 0, 1) := by decide +kernel
theorem dX8_reckon_115 : decode cX8_reckon 115 = .ok (.goto 20, 3) := by decide +kernel
theorem dX8_reckon_118 : decode cX8_reckon 118 = .ok (.iload_n 1, 1) := by decide +kernel
theorem dX8_reckon_119 : decode cX8_reckon 119 = .ok (.bipush 13, 2) := by decide +kernel
theorem dX8_reckon_121 : decode cX8_reckon 121 = .ok (.if_icmp .ne 10, 3) := by decide +kernel
theorem dX8_reckon_124 : decode cX8_reckon 124 = .ok (.lload_n 2, 1) := by decide +kernel
theorem dX8_reckon_125 : decode cX8_reckon 125 = .ok (.lload 4, 2) := by decide +kernel
theorem dX8_reckon_127 : decode cX8_reckon 127 = .ok (.ldiv, 1) := by decide +kernel
theorem dX8_reckon_128 : decode cX8_reckon 128 = .ok (.goto 7, 3) := by decide +kernel
theorem dX8_reckon_131 : decode cX8_reckon 131 = .ok (.lload_n 2, 1) := by decide +kernel
theorem dX8_reckon_132 : decode cX8_reckon 132 = .ok (.lload 4, 2) := by decide +kernel
theorem dX8_reckon_134 : decode cX8_reckon 134 = .ok (.lrem, 1) := by decide +kernel
theorem dX8_reckon_135 : decode cX8_reckon 135 = .ok (.lreturn, 1) := by decide +kernel
theorem dX8_reckon_136 : decode cX8_reckon 136 = .ok (.lload_n 2, 1) := by decide +kernel
theorem dX8_reckon_137 : decode cX8_reckon 137 = .ok (.lload 4, 2) := by decide +kernel
theorem dX8_reckon_139 : decode cX8_reckon 139 = .ok (.lcmp, 1) := by decide +kernel
theorem dX8_reckon_140 : decode cX8_reckon 140 = .ok (.ifCond .ne 7, 3) := by decide +kernel
theorem dX8_reckon_143 : decode cX8_reckon 143 = .ok (.lconst 1, 1) := by decide +kernel
theorem dX8_reckon_144 : decode cX8_reckon 144 = .ok (.goto 4, 3) := by decide +kernel
theorem dX8_reckon_147 : decode cX8_reckon 147 = .ok (.lconst 0, 1) := by decide +kernel
theorem dX8_reckon_148 : decode cX8_reckon 148 = .ok (.lreturn, 1) := by decide +kernel
theorem dX8_reckon_149 : decode cX8_reckon 149 = .ok (.lload_n 2, 1) := by decide +kernel
theorem dX8_reckon_150 : decode cX8_reckon 150 = .ok (.lload 4, 2) := by decide +kernel
theorem dX8_reckon_152 : decode cX8_reckon 152 = .ok (.lcmp, 1) := by decide +kernel
theorem dX8_reckon_153 : decode cX8_reckon 153 = .ok (.ifCond .eq 7, 3) := by decide +kernel
theorem dX8_reckon_156 : decode cX8_reckon 156 = .ok (.lconst 1, 1) := by decide +kernel
theorem dX8_reckon_157 : decode cX8_reckon 157 = .ok (.goto 4, 3) := by decide +kernel
theorem dX8_reckon_160 : decode cX8_reckon 160 = .ok (.lconst 0, 1) := by decide +kernel
theorem dX8_reckon_161 : decode cX8_reckon 161 = .ok (.lreturn, 1) := by decide +kernel
theorem dX8_reckon_162 : decode cX8_reckon 162 = .ok (.lload_n 2, 1) := by decide +kernel
theorem dX8_reckon_163 : decode cX8_reckon 163 = .ok (.lload 4, 2) := by decide +kernel
theorem dX8_reckon_165 : decode cX8_reckon 165 = .ok (.lcmp, 1) := by decide +kernel
theorem dX8_reckon_166 : decode cX8_reckon 166 = .ok (.ifCond .ge 7, 3) := by decide +kernel
theorem dX8_reckon_169 : decode cX8_reckon 169 = .ok (.lconst 1, 1) := by decide +kernel
theorem dX8_reckon_170 : decode cX8_reckon 170 = .ok (.goto 4, 3) := by decide +kernel
theorem dX8_reckon_173 : decode cX8_reckon 173 = .ok (.lconst 0, 1) := by decide +kernel
theorem dX8_reckon_174 : decode cX8_reckon 174 = .ok (.lreturn, 1) := by decide +kernel
theorem dX8_reckon_175 : decode cX8_reckon 175 = .ok (.lload_n 2, 1) := by decide +kernel
theorem dX8_reckon_176 : decode cX8_reckon 176 = .ok (.lload 4, 2) := by decide +kernel
theorem dX8_reckon_178 : decode cX8_reckon 178 = .ok (.lcmp, 1) := by decide +kernel
theorem dX8_reckon_179 : decode cX8_reckon 179 = .ok (.ifCond .le 7, 3) := by decide +kernel
theorem dX8_reckon_182 : decode cX8_reckon 182 = .ok (.lconst 1, 1) := by decide +kernel
theorem dX8_reckon_183 : decode cX8_reckon 183 = .ok (.goto 4, 3) := by decide +kernel
theorem dX8_reckon_186 : decode cX8_reckon 186 = .ok (.lconst 0, 1) := by decide +kernel
theorem dX8_reckon_187 : decode cX8_reckon 187 = .ok (.lreturn, 1) := by decide +kernel
theorem dX8_reckon_188 : decode cX8_reckon 188 = .ok (.lload_n 2, 1) := by decide +kernel
theorem dX8_reckon_189 : decode cX8_reckon 189 = .ok (.lload 4, 2) := by decide +kernel
theorem dX8_reckon_191 : decode cX8_reckon 191 = .ok (.lmul, 1) := by decide +kernel
theorem dX8_reckon_192 : decode cX8_reckon 192 = .ok (.lreturn, 1) := by decide +kernel
theorem dX8_reckon_193 : decode cX8_reckon 193 = .ok (.lload_n 2, 1) := by decide +kernel
theorem dX8_reckon_194 : decode cX8_reckon 194 = .ok (.lload 4, 2) := by decide +kernel
theorem dX8_reckon_196 : decode cX8_reckon 196 = .ok (.ladd, 1) := by decide +kernel
theorem dX8_reckon_197 : decode cX8_reckon 197 = .ok (.lconst 0, 1) := by decide +kernel
theorem dX8_reckon_198 : decode cX8_reckon 198 = .ok (.lcmp, 1) := by decide +kernel
theorem dX8_reckon_199 : decode cX8_reckon 199 = .ok (.ifCond .le 7, 3) := by decide +kernel
theorem dX8_reckon_202 : decode cX8_reckon 202 = .ok (.lconst 1, 1) := by decide +kernel
theorem dX8_reckon_203 : decode cX8_reckon 203 = .ok (.goto 4, 3) := by decide +kernel
theorem dX8_reckon_206 : decode cX8_reckon 206 = .ok (.lconst 0, 1) := by decide +kernel
theorem dX8_reckon_207 : decode cX8_reckon 207 = .ok (.lreturn, 1) := by decide +kernel
theorem dX8_work_0 : decode cX8_work 0 = .ok (.aload_n 0, 1) := by decide +kernel
theorem dX8_work_1 : decode cX8_work 1 = .ok (.iconst 0, 1) := by decide +kernel
theorem dX8_work_2 : decode cX8_work 2 = .ok (.putfield 108, 3) := by decide +kernel
theorem dX8_work_5 : decode cX8_work 5 = .ok (.iconst 0, 1) := by decide +kernel
theorem dX8_work_6 : decode cX8_work 6 = .ok (.istore_n 3, 1) := by decide +kernel
theorem dX8_work_7 : decode cX8_work 7 = .ok (.iload_n 3, 1) := by decide +kernel
theorem dX8_work_8 : decode cX8_work 8 = .ok (.bipush 60, 2) := by decide +kernel
theorem dX8_work_10 : decode cX8_work 10 = .ok (.if_icmp .ge 16, 3) := by decide +kernel
theorem dX8_work_13 : decode cX8_work 13 = .ok (.aload_n 0, 1) := by decide +kernel
theorem dX8_work_14 : decode cX8_work 14 = .ok (.getfield 57, 3) := by decide +kernel
theorem dX8_work_17 : decode cX8_work 17 = .ok (.iload_n 3, 1) := by decide +kernel
theorem dX8_work_18 : decode cX8_work 18 = .ok (.iconst 0, 1) := by decide +kernel
theorem dX8_work_19 : decode cX8_work 19 = .ok (.bastore, 1) := by decide +kernel
theorem dX8_work_20 : decode cX8_work 20 = .ok (.iinc 3 1, 3) := by decide +kernel
theorem dX8_work_23 : decode cX8_work 23 = .ok (.goto (-16), 3) := by decide +kernel
theorem dX8_work_26 : decode cX8_work 26 = .ok (.sipush 240, 3) := by decide +kernel
theorem dX8_work_29 : decode cX8_work 29 = .ok (.iload_n 1, 1) := by decide +kernel
theorem dX8_work_30 : decode cX8_work 30 = .ok (.imul, 1) := by decide +kernel
theorem dX8_work_31 : decode cX8_work 31 = .ok (.istore_n 3, 1) := by decide +kernel
theorem dX8_work_32 : decode cX8_work 32 = .ok (.iconst 0, 1) := by decide +kernel
theorem dX8_work_33 : decode cX8_work 33 = .ok (.istore 4, 2) := by decide +kernel
theorem dX8_work_35 : decode cX8_work 35 = .ok (.iload 4, 2) := by decide +kernel
theorem dX8_work_37 : decode cX8_work 37 = .ok (.iconst 4, 1) := by decide +kernel
theorem dX8_work_38 : decode cX8_work 38 = .ok (.if_icmp .ge 95, 3) := by decide +kernel
theorem dX8_work_41 : decode cX8_work 41 = .ok (.aload_n 0, 1) := by decide +kernel
theorem dX8_work_42 : decode cX8_work 42 = .ok (.iconst 0, 1) := by decide +kernel
theorem dX8_work_43 : decode cX8_work 43 = .ok (.putfield 101, 3) := by decide +kernel
theorem dX8_work_46 : decode cX8_work 46 = .ok (.iload_n 3, 1) := by decide +kernel
theorem dX8_work_47 : decode cX8_work 47 = .ok (.istore 5, 2) := by decide +kernel
theorem dX8_work_49 : decode cX8_work 49 = .ok (.iload 5, 2) := by decide +kernel
theorem dX8_work_51 : decode cX8_work 51 = .ok (.aload_n 0, 1) := by decide +kernel
theorem dX8_work_52 : decode cX8_work 52 = .ok (.getfield 39, 3) := by decide +kernel
theorem dX8_work_55 : decode cX8_work 55 = .ok (.iconst 4, 1) := by decide +kernel
theorem dX8_work_56 : decode cX8_work 56 = .ok (.iload_n 1, 1) := by decide +kernel
theorem dX8_work_57 : decode cX8_work 57 = .ok (.imul, 1) := by decide +kernel
theorem dX8_work_58 : decode cX8_work 58 = .ok (.iload 4, 2) := by decide +kernel
theorem dX8_work_60 : decode cX8_work 60 = .ok (.iadd, 1) := by decide +kernel
theorem dX8_work_61 : decode cX8_work 61 = .ok (.iaload, 1) := by decide +kernel
theorem dX8_work_62 : decode cX8_work 62 = .ok (.if_icmp .ge 16, 3) := by decide +kernel
theorem dX8_work_65 : decode cX8_work 65 = .ok (.aload_n 0, 1) := by decide +kernel
theorem dX8_work_66 : decode cX8_work 66 = .ok (.iload_n 2, 1) := by decide +kernel
theorem dX8_work_67 : decode cX8_work 67 = .ok (.iload 5, 2) := by decide +kernel
theorem dX8_work_69 : decode cX8_work 69 = .ok (.invokevirtual 126, 3) := by decide +kernel
theorem dX8_work_72 : decode cX8_work 72 = .ok (.iinc 5 1, 3) := by decide +kernel
theorem dX8_work_75 : decode cX8_work 75 = .ok (.goto (-26), 3) := by decide +kernel
theorem dX8_work_78 : decode cX8_work 78 = .ok (.aload_n 0, 1) := by decide +kernel
theorem dX8_work_79 : decode cX8_work 79 = .ok (.getfield 60, 3) := by decide +kernel
theorem dX8_work_82 : decode cX8_work 82 = .ok (.iload 4, 2) := by decide +kernel
theorem dX8_work_84 : decode cX8_work 84 = .ok (.aload_n 0, 1) := by decide +kernel
theorem dX8_work_85 : decode cX8_work 85 = .ok (.getfield 101, 3) := by decide +kernel
theorem dX8_work_88 : decode cX8_work 88 = .ok (.ifCond .le 10, 3) := by decide +kernel
theorem dX8_work_91 : decode cX8_work 91 = .ok (.aload_n 0, 1) := by decide +kernel
theorem dX8_work_92 : decode cX8_work 92 = .ok (.invokevirtual 104, 3) := by decide +kernel
theorem dX8_work_95 : decode cX8_work 95 = .ok (.goto 19, 3) := by decide +kernel
theorem dX8_work_98 : decode cX8_work 98 = .ok (.iload 4, 2) := by decide +kernel
theorem dX8_work_100 : decode cX8_work 100 = .ok (.ifCond .eq 9, 3) := by decide +kernel
theorem dX8_work_103 : decode cX8_work 103 = .ok (.iload 4, 2) := by decide +kernel
theorem dX8_work_105 : decode cX8_work 105 = .ok (.iconst 3, 1) := by decide +kernel
theorem dX8_work_106 : decode cX8_work 106 = .ok (.if_icmp .ne 7, 3) := by decide +kernel
theorem dX8_work_109 : decode cX8_work 109 = .ok (.lconst 1, 1) := by decide +kernel
theorem dX8_work_110 : decode cX8_work 110 = .ok (.goto 4, 3) := by decide +kernel
theorem dX8_work_113 : decode cX8_work 113 = .ok (.lconst 0, 1) := by decide +kernel
theorem dX8_work_114 : decode cX8_work 114 = .ok (.lastore, 1) := by decide +kernel
theorem dX8_work_115 : decode cX8_work 115 = .ok (.aload_n 0, 1) := by decide +kernel
theorem dX8_work_116 : decode cX8_work 116 = .ok (.getfield 39, 3) := by decide +kernel
theorem dX8_work_119 : decode cX8_work 119 = .ok (.iconst 4, 1) := by decide +kernel
theorem dX8_work_120 : decode cX8_work 120 = .ok (.iload_n 1, 1) := by decide +kernel
theorem dX8_work_121 : decode cX8_work 121 = .ok (.imul, 1) := by decide +kernel
theorem dX8_work_122 : decode cX8_work 122 = .ok (.iload 4, 2) := by decide +kernel
theorem dX8_work_124 : decode cX8_work 124 = .ok (.iadd, 1) := by decide +kernel
theorem dX8_work_125 : decode cX8_work 125 = .ok (.iaload, 1) := by decide +kernel
theorem dX8_work_126 : decode cX8_work 126 = .ok (.istore_n 3, 1) := by decide +kernel
theorem dX8_work_127 : decode cX8_work 127 = .ok (.iinc 4 1, 3) := by decide +kernel
theorem dX8_work_130 : decode cX8_work 130 = .ok (.goto (-95), 3) := by decide +kernel
theorem dX8_work_133 : decode cX8_work 133 = .ok (.aload_n 0, 1) := by decide +kernel
theorem dX8_work_134 : decode cX8_work 134 = .ok (.getfield 108, 3) := by decide +kernel
theorem dX8_work_137 : decode cX8_work 137 = .ok (.ifCond .ne 18, 3) := by decide +kernel
theorem dX8_work_140 : decode cX8_work 140 = .ok (.aload_n 0, 1) := by decide +kernel
theorem dX8_work_141 : decode cX8_work 141 = .ok (.getfield 60, 3) := by decide +kernel
theorem dX8_work_144 : decode cX8_work 144 = .ok (.iconst 0, 1) := by decide +kernel
theorem dX8_work_145 : decode cX8_work 145 = .ok (.laload, 1) := by decide +kernel
theorem dX8_work_146 : decode cX8_work 146 = .ok (.lconst 0, 1) := by decide +kernel
theorem dX8_work_147 : decode cX8_work 147 = .ok (.lcmp, 1) := by decide +kernel
theorem dX8_work_148 : decode cX8_work 148 = .ok (.ifCond .eq 7, 3) := by decide +kernel
theorem dX8_work_151 : decode cX8_work 151 = .ok (.iconst 1, 1) := by decide +kernel
theorem dX8_work_152 : decode cX8_work 152 = .ok (.goto 4, 3) := by decide +kernel
theorem dX8_work_155 : decode cX8_work 155 = .ok (.iconst 0, 1) := by decide +kernel
theorem dX8_work_156 : decode cX8_work 156 = .ok (.ireturn, 1) := by decide +kernel
theorem dX8_find_0 : decode cX8_find 0 = .ok (.aload_n 0, 1) := by decide +kernel
theorem dX8_find_1 : decode cX8_find 1 = .ok (.iconst 0, 1) := by decide +kernel
theorem dX8_find_2 : decode cX8_find 2 = .ok (.putfield 130, 3) := by decide +kernel
theorem dX8_find_5 : decode cX8_find 5 = .ok (.iconst 0, 1) := by decide +kernel
theorem dX8_find_6 : decode cX8_find 6 = .ok (.istore_n 2, 1) := by decide +kernel
theorem dX8_find_7 : decode cX8_find 7 = .ok (.iload_n 2, 1) := by decide +kernel
theorem dX8_find_8 : decode cX8_find 8 = .ok (.aload_n 0, 1) := by decide +kernel
theorem dX8_find_9 : decode cX8_find 9 = .ok (.getfield 94, 3) := by decide +kernel
theorem dX8_find_12 : decode cX8_find 12 = .ok (.if_icmp .ge 187, 3) := by decide +kernel
theorem dX8_find_15 : decode cX8_find 15 = .ok (.aload_n 0, 1) := by decide +kernel
theorem dX8_find_16 : decode cX8_find 16 = .ok (.getfield 13, 3) := by decide +kernel
theorem dX8_find_19 : decode cX8_find 19 = .ok (.iload_n 2, 1) := by decide +kernel
theorem dX8_find_20 : decode cX8_find 20 = .ok (.baload, 1) := by decide +kernel
theorem dX8_find_21 : decode cX8_find 21 = .ok (.ifCond .eq 172, 3) := by decide +kernel
theorem dX8_find_24 : decode cX8_find 24 = .ok (.aload_n 0, 1) := by decide +kernel
theorem dX8_find_25 : decode cX8_find 25 = .ok (.getfield 17, 3) := by decide +kernel
theorem dX8_find_28 : decode cX8_find 28 = .ok (.iload_n 2, 1) := by decide +kernel
theorem dX8_find_29 : decode cX8_find 29 = .ok (.iaload, 1) := by decide +kernel
theorem dX8_find_30 : decode cX8_find 30 = .ok (.aload_n 0, 1) := by decide +kernel
theorem dX8_find_31 : decode cX8_find 31 = .ok (.getfield 33, 3) := by decide +kernel
theorem dX8_find_34 : decode cX8_find 34 = .ok (.iload_n 1, 1) := by decide +kernel
theorem dX8_find_35 : decode cX8_find 35 = .ok (.iaload, 1) := by decide +kernel
theorem dX8_find_36 : decode cX8_find 36 = .ok (.if_icmp .ne 157, 3) := by decide +kernel
theorem dX8_find_39 : decode cX8_find 39 = .ok (.aload_n 0, 1) := by decide +kernel
theorem dX8_find_40 : decode cX8_find 40 = .ok (.iload_n 1, 1) := by decide +kernel
theorem dX8_find_41 : decode cX8_find 41 = .ok (.iload_n 2, 1) := by decide +kernel
theorem dX8_find_42 : decode cX8_find 42 = .ok (.invokevirtual 133, 3) := by decide +kernel
theorem dX8_find_45 : decode cX8_find 45 = .ok (.ifCond .ne 6, 3) := by decide +kernel
theorem dX8_find_48 : decode cX8_find 48 = .ok (.goto 145, 3) := by decide +kernel
theorem dX8_find_51 : decode cX8_find 51 = .ok (.aload_n 0, 1) := by decide +kernel
theorem dX8_find_52 : decode cX8_find 52 = .ok (.getfield 130, 3) := by decide +kernel
theorem dX8_find_55 : decode cX8_find 55 = .ok (.istore_n 3, 1) := by decide +kernel
theorem dX8_find_56 : decode cX8_find 56 = .ok (.iload_n 3, 1) := by decide +kernel
theorem dX8_find_57 : decode cX8_find 57 = .ok (.ifCond .le 83, 3) := by decide +kernel
theorem dX8_find_60 : decode cX8_find 60 = .ok (.aload_n 0, 1) := by decide +kernel
theorem dX8_find_61 : decode cX8_find 61 = .ok (.getfield 66, 3) := by decide +kernel
theorem dX8_find_64 : decode cX8_find 64 = .ok (.iload_n 3, 1) := by decide +kernel
theorem dX8_find_65 : decode cX8_find 65 = .ok (.iconst 1, 1) := by decide +kernel
theorem dX8_find_66 : decode cX8_find 66 = .ok (.isub, 1) := by decide +kernel
theorem dX8_find_67 : decode cX8_find 67 = .ok (.laload, 1) := by decide +kernel
theorem dX8_find_68 : decode cX8_find 68 = .ok (.aload_n 0, 1) := by decide +kernel
theorem dX8_find_69 : decode cX8_find 69 = .ok (.getfield 60, 3) := by decide +kernel
theorem dX8_find_72 : decode cX8_find 72 = .ok (.iconst 1, 1) := by decide +kernel
theorem dX8_find_73 : decode cX8_find 73 = .ok (.laload, 1) := by decide +kernel
theorem dX8_find_74 : decode cX8_find 74 = .ok (.lcmp, 1) := by decide +kernel
theorem dX8_find_75 : decode cX8_find 75 = .ok (.ifCond .le 65, 3) := by decide +kernel
theorem dX8_find_78 : decode cX8_find 78 = .ok (.aload_n 0, 1) := by decide +kernel
theorem dX8_find_79 : decode cX8_find 79 = .ok (.getfield 63, 3) := by decide +kernel
theorem dX8_find_82 : decode cX8_find 82 = .ok (.iload_n 3, 1) := by decide +kernel
theorem dX8_find_83 : decode cX8_find 83 = .ok (.aload_n 0, 1) := by decide +kernel
theorem dX8_find_84 : decode cX8_find 84 = .ok (.getfield 63, 3) := by decide +kernel
theorem dX8_find_87 : decode cX8_find 87 = .ok (.iload_n 3, 1) := by decide +kernel
theorem dX8_find_88 : decode cX8_find 88 = .ok (.iconst 1, 1) := by decide +kernel
theorem dX8_find_89 : decode cX8_find 89 = .ok (.isub, 1) := by decide +kernel
theorem dX8_find_90 : decode cX8_find 90 = .ok (.iaload, 1) := by decide +kernel
theorem dX8_find_91 : decode cX8_find 91 = .ok (.iastore, 1) := by decide +kernel
theorem dX8_find_92 : decode cX8_find 92 = .ok (.aload_n 0, 1) := by decide +kernel
theorem dX8_find_93 : decode cX8_find 93 = .ok (.getfield 66, 3) := by decide +kernel
theorem dX8_find_96 : decode cX8_find 96 = .ok (.iload_n 3, 1) := by decide +kernel
theorem dX8_find_97 : decode cX8_find 97 = .ok (.aload_n 0, 1) := by decide +kernel
theorem dX8_find_98 : decode cX8_find 98 = .ok (.getfield 66, 3) := by decide +kernel
theorem dX8_find_101 : decode cX8_find 101 = .ok (.iload_n 3, 1) := by decide +kernel
theorem dX8_find_102 : decode cX8_find 102 = .ok (.iconst 1, 1) := by decide +kernel
theorem dX8_find_103 : decode cX8_find 103 = .ok (.isub, 1) := by decide +kernel
theorem dX8_find_104 : decode cX8_find 104 = .ok (.laload, 1) := by decide +kernel
theorem dX8_find_105 : decode cX8_find 105 = .ok (.lastore, 1) := by decide +kernel
theorem dX8_find_106 : decode cX8_find 106 = .ok (.aload_n 0, 1) := by decide +kernel
theorem dX8_find_107 : decode cX8_find 107 = .ok (.getfield 69, 3) := by decide +kernel
theorem dX8_find_110 : decode cX8_find 110 = .ok (.iload_n 3, 1) := by decide +kernel
theorem dX8_find_111 : decode cX8_find 111 = .ok (.aload_n 0, 1) := by decide +kernel
theorem dX8_find_112 : decode cX8_find 112 = .ok (.getfield 69, 3) := by decide +kernel
theorem dX8_find_115 : decode cX8_find 115 = .ok (.iload_n 3, 1) := by decide +kernel
theorem dX8_find_116 : decode cX8_find 116 = .ok (.iconst 1, 1) := by decide +kernel
theorem dX8_find_117 : decode cX8_find 117 = .ok (.isub, 1) := by decide +kernel
theorem dX8_find_118 : decode cX8_find 118 = .ok (.laload, 1) := by decide +kernel
theorem dX8_find_119 : decode cX8_find 119 = .ok (.lastore, 1) := by decide +kernel
theorem dX8_find_120 : decode cX8_find 120 = .ok (.aload_n 0, 1) := by decide +kernel
theorem dX8_find_121 : decode cX8_find 121 = .ok (.getfield 72, 3) := by decide +kernel
theorem dX8_find_124 : decode cX8_find 124 = .ok (.iload_n 3, 1) := by decide +kernel
theorem dX8_find_125 : decode cX8_find 125 = .ok (.aload_n 0, 1) := by decide +kernel
theorem dX8_find_126 : decode cX8_find 126 = .ok (.getfield 72, 3) := by decide +kernel
theorem dX8_find_129 : decode cX8_find 129 = .ok (.iload_n 3, 1) := by decide +kernel
theorem dX8_find_130 : decode cX8_find 130 = .ok (.iconst 1, 1) := by decide +kernel
theorem dX8_find_131 : decode cX8_find 131 = .ok (.isub, 1) := by decide +kernel
theorem dX8_find_132 : decode cX8_find 132 = .ok (.laload, 1) := by decide +kernel
theorem dX8_find_133 : decode cX8_find 133 = .ok (.lastore, 1) := by decide +kernel
theorem dX8_find_134 : decode cX8_find 134 = .ok (.iinc 3 (-1), 3) := by decide +kernel
theorem dX8_find_137 : decode cX8_find 137 = .ok (.goto (-81), 3) := by decide +kernel
theorem dX8_find_140 : decode cX8_find 140 = .ok (.aload_n 0, 1) := by decide +kernel
theorem dX8_find_141 : decode cX8_find 141 = .ok (.getfield 63, 3) := by decide +kernel
theorem dX8_find_144 : decode cX8_find 144 = .ok (.iload_n 3, 1) := by decide +kernel
theorem dX8_find_145 : decode cX8_find 145 = .ok (.iload_n 2, 1) := by decide +kernel
theorem dX8_find_146 : decode cX8_find 146 = .ok (.iastore, 1) := by decide +kernel
theorem dX8_find_147 : decode cX8_find 147 = .ok (.aload_n 0, 1) := by decide +kernel
theorem dX8_find_148 : decode cX8_find 148 = .ok (.getfield 66, 3) := by decide +kernel
theorem dX8_find_151 : decode cX8_find 151 = .ok (.iload_n 3, 1) := by decide +kernel
theorem dX8_find_152 : decode cX8_find 152 = .ok (.aload_n 0, 1) := by decide +kernel
theorem dX8_find_153 : decode cX8_find 153 = .ok (.getfield 60, 3) := by decide +kernel
theorem dX8_find_156 : decode cX8_find 156 = .ok (.iconst 1, 1) := by decide +kernel
theorem dX8_find_157 : decode cX8_find 157 = .ok (.laload, 1) := by decide +kernel
theorem dX8_find_158 : decode cX8_find 158 = .ok (.lastore, 1) := by decide +kernel
theorem dX8_find_159 : decode cX8_find 159 = .ok (.aload_n 0, 1) := by decide +kernel
theorem dX8_find_160 : decode cX8_find 160 = .ok (.getfield 69, 3) := by decide +kernel
theorem dX8_find_163 : decode cX8_find 163 = .ok (.iload_n 3, 1) := by decide +kernel
theorem dX8_find_164 : decode cX8_find 164 = .ok (.aload_n 0, 1) := by decide +kernel
theorem dX8_find_165 : decode cX8_find 165 = .ok (.getfield 60, 3) := by decide +kernel
theorem dX8_find_168 : decode cX8_find 168 = .ok (.iconst 2, 1) := by decide +kernel
theorem dX8_find_169 : decode cX8_find 169 = .ok (.laload, 1) := by decide +kernel
theorem dX8_find_170 : decode cX8_find 170 = .ok (.lastore, 1) := by decide +kernel
theorem dX8_find_171 : decode cX8_find 171 = .ok (.aload_n 0, 1) := by decide +kernel
theorem dX8_find_172 : decode cX8_find 172 = .ok (.getfield 72, 3) := by decide +kernel
theorem dX8_find_175 : decode cX8_find 175 = .ok (.iload_n 3, 1) := by decide +kernel
theorem dX8_find_176 : decode cX8_find 176 = .ok (.aload_n 0, 1) := by decide +kernel
theorem dX8_find_177 : decode cX8_find 177 = .ok (.getfield 60, 3) := by decide +kernel
theorem dX8_find_180 : decode cX8_find 180 = .ok (.iconst 3, 1) := by decide +kernel
theorem dX8_find_181 : decode cX8_find 181 = .ok (.laload, 1) := by decide +kernel
theorem dX8_find_182 : decode cX8_find 182 = .ok (.lastore, 1) := by decide +kernel
theorem dX8_find_183 : decode cX8_find 183 = .ok (.aload_n 0, 1) := by decide +kernel
theorem dX8_find_184 : decode cX8_find 184 = .ok (.dup, 1) := by decide +kernel
theorem dX8_find_185 : decode cX8_find 185 = .ok (.getfield 130, 3) := by decide +kernel
theorem dX8_find_188 : decode cX8_find 188 = .ok (.iconst 1, 1) := by decide +kernel
theorem dX8_find_189 : decode cX8_find 189 = .ok (.iadd, 1) := by decide +kernel
theorem dX8_find_190 : decode cX8_find 190 = .ok (.putfield 130, 3) := by decide +kernel
theorem dX8_find_193 : decode cX8_find 193 = .ok (.iinc 2 1, 3) := by decide +kernel
theorem dX8_find_196 : decode cX8_find 196 = .ok (.goto (-189), 3) := by decide +kernel
theorem dX8_find_199 : decode cX8_find 199 = .ok (.return_, 1) := by decide +kernel
theorem dX8_shows_0 : decode cX8_shows 0 = .ok (.aload_n 0, 1) := by decide +kernel
theorem dX8_shows_1 : decode cX8_shows 1 = .ok (.getfield 36, 3) := by decide +kernel
theorem dX8_shows_4 : decode cX8_shows 4 = .ok (.iload_n 1, 1) := by decide +kernel
theorem dX8_shows_5 : decode cX8_shows 5 = .ok (.iaload, 1) := by decide +kernel
theorem dX8_shows_6 : decode cX8_shows 6 = .ok (.ifCond .eq 16, 3) := by decide +kernel
theorem dX8_shows_9 : decode cX8_shows 9 = .ok (.aload_n 0, 1) := by decide +kernel
theorem dX8_shows_10 : decode cX8_shows 10 = .ok (.getfield 36, 3) := by decide +kernel
theorem dX8_shows_13 : decode cX8_shows 13 = .ok (.iload_n 1, 1) := by decide +kernel
theorem dX8_shows_14 : decode cX8_shows 14 = .ok (.iaload, 1) := by decide +kernel
theorem dX8_shows_15 : decode cX8_shows 15 = .ok (.aload_n 0, 1) := by decide +kernel
theorem dX8_shows_16 : decode cX8_shows 16 = .ok (.getfield 130, 3) := by decide +kernel
theorem dX8_shows_19 : decode cX8_shows 19 = .ok (.if_icmp .le 10, 3) := by decide +kernel
theorem dX8_shows_22 : decode cX8_shows 22 = .ok (.aload_n 0, 1) := by decide +kernel
theorem dX8_shows_23 : decode cX8_shows 23 = .ok (.getfield 130, 3) := by decide +kernel
theorem dX8_shows_26 : decode cX8_shows 26 = .ok (.goto 9, 3) := by decide +kernel
theorem dX8_shows_29 : decode cX8_shows 29 = .ok (.aload_n 0, 1) := by decide +kernel
theorem dX8_shows_30 : decode cX8_shows 30 = .ok (.getfield 36, 3) := by decide +kernel
theorem dX8_shows_33 : decode cX8_shows 33 = .ok (.iload_n 1, 1) := by decide +kernel
theorem dX8_shows_34 : decode cX8_shows 34 = .ok (.iaload, 1) := by decide +kernel
theorem dX8_shows_35 : decode cX8_shows 35 = .ok (.ireturn, 1) := by decide +kernel
theorem dX8_findGroups_0 : decode cX8_findGroups 0 = .ok (.aload_n 0, 1) := by decide +kernel
theorem dX8_findGroups_1 : decode cX8_findGroups 1 = .ok (.iload_n 1, 1) := by decide +kernel
theorem dX8_findGroups_2 : decode cX8_findGroups 2 = .ok (.invokevirtual 137, 3) := by decide +kernel
theorem dX8_findGroups_5 : decode cX8_findGroups 5 = .ok (.aload_n 0, 1) := by decide +kernel
theorem dX8_findGroups_6 : decode cX8_findGroups 6 = .ok (.iconst 0, 1) := by decide +kernel
theorem dX8_findGroups_7 : decode cX8_findGroups 7 = .ok (.putfield 141, 3) := by decide +kernel
theorem dX8_findGroups_10 : decode cX8_findGroups 10 = .ok (.iconst 0, 1) := by decide +kernel
theorem dX8_findGroups_11 : decode cX8_findGroups 11 = .ok (.istore_n 2, 1) := by decide +kernel
theorem dX8_findGroups_12 : decode cX8_findGroups 12 = .ok (.iload_n 2, 1) := by decide +kernel
theorem dX8_findGroups_13 : decode cX8_findGroups 13 = .ok (.aload_n 0, 1) := by decide +kernel
theorem dX8_findGroups_14 : decode cX8_findGroups 14 = .ok (.getfield 130, 3) := by decide +kernel
theorem dX8_findGroups_17 : decode cX8_findGroups 17 = .ok (.if_icmp .ge 189, 3) := by decide +kernel
theorem dX8_findGroups_20 : decode cX8_findGroups 20 = .ok (.iconst 0, 1) := by decide +kernel
theorem dX8_findGroups_21 : decode cX8_findGroups 21 = .ok (.istore_n 3, 1) := by decide +kernel
theorem dX8_findGroups_22 : decode cX8_findGroups 22 = .ok (.iload_n 3, 1) := by decide +kernel
theorem dX8_findGroups_23 : decode cX8_findGroups 23 = .ok (.aload_n 0, 1) := by decide +kernel
theorem dX8_findGroups_24 : decode cX8_findGroups 24 = .ok (.getfield 141, 3) := by decide +kernel
theorem dX8_findGroups_27 : decode cX8_findGroups 27 = .ok (.if_icmp .ge 25, 3) := by decide +kernel
theorem dX8_findGroups_30 : decode cX8_findGroups 30 = .ok (.aload_n 0, 1) := by decide +kernel
theorem dX8_findGroups_31 : decode cX8_findGroups 31 = .ok (.getfield 75, 3) := by decide +kernel
theorem dX8_findGroups_34 : decode cX8_findGroups 34 = .ok (.iload_n 3, 1) := by decide +kernel
theorem dX8_findGroups_35 : decode cX8_findGroups 35 = .ok (.laload, 1) := by decide +kernel
theorem dX8_findGroups_36 : decode cX8_findGroups 36 = .ok (.aload_n 0, 1) := by decide +kernel
theorem dX8_findGroups_37 : decode cX8_findGroups 37 = .ok (.getfield 69, 3) := by decide +kernel
theorem dX8_findGroups_40 : decode cX8_findGroups 40 = .ok (.iload_n 2, 1) := by decide +kernel
theorem dX8_findGroups_41 : decode cX8_findGroups 41 = .ok (.laload, 1) := by decide +kernel
theorem dX8_findGroups_42 : decode cX8_findGroups 42 = .ok (.lcmp, 1) := by decide +kernel
theorem dX8_findGroups_43 : decode cX8_findGroups 43 = .ok (.ifCond .ge 9, 3) := by decide +kernel
theorem dX8_findGroups_46 : decode cX8_findGroups 46 = .ok (.iinc 3 1, 3) := by decide +kernel
theorem dX8_findGroups_49 : decode cX8_findGroups 49 = .ok (.goto (-27), 3) := by decide +kernel
theorem dX8_findGroups_52 : decode cX8_findGroups 52 = .ok (.iload_n 3, 1) := by decide +kernel
theorem dX8_findGroups_53 : decode cX8_findGroups 53 = .ok (.aload_n 0, 1) := by decide +kernel
theorem dX8_findGroups_54 : decode cX8_findGroups 54 = .ok (.getfield 141, 3) := by decide +kernel
theorem dX8_findGroups_57 : decode cX8_findGroups 57 = .ok (.if_icmp .eq 19, 3) := by decide +kernel
theorem dX8_findGroups_60 : decode cX8_findGroups 60 = .ok (.aload_n 0, 1) := by decide +kernel
theorem dX8_findGroups_61 : decode cX8_findGroups 61 = .ok (.getfield 75, 3) := by decide +kernel
theorem dX8_findGroups_64 : decode cX8_findGroups 64 = .ok (.iload_n 3, 1) := by decide +kernel
theorem dX8_findGroups_65 : decode cX8_findGroups 65 = .ok (.laload, 1) := by decide +kernel
theorem dX8_findGroups_66 : decode cX8_findGroups 66 = .ok (.aload_n 0, 1) := by decide +kernel
theorem dX8_findGroups_67 : decode cX8_findGroups 67 = .ok (.getfield 69, 3) := by decide +kernel
theorem dX8_findGroups_70 : decode cX8_findGroups 70 = .ok (.iload_n 2, 1) := by decide +kernel
theorem dX8_findGroups_71 : decode cX8_findGroups 71 = .ok (.laload, 1) := by decide +kernel
theorem dX8_findGroups_72 : decode cX8_findGroups 72 = .ok (.lcmp, 1) := by decide +kernel
theorem dX8_findGroups_73 : decode cX8_findGroups 73 = .ok (.ifCond .eq 14, 3) := by decide +kernel
theorem dX8_findGroups_76 : decode cX8_findGroups 76 = .ok (.aload_n 0, 1) := by decide +kernel
theorem dX8_findGroups_77 : decode cX8_findGroups 77 = .ok (.iload_n 3, 1) := by decide +kernel
theorem dX8_findGroups_78 : decode cX8_findGroups 78 = .ok (.aload_n 0, 1) := by decide +kernel
theorem dX8_findGroups_79 : decode cX8_findGroups 79 = .ok (.getfield 69, 3) := by decide +kernel
theorem dX8_findGroups_82 : decode cX8_findGroups 82 = .ok (.iload_n 2, 1) := by decide +kernel
theorem dX8_findGroups_83 : decode cX8_findGroups 83 = .ok (.laload, 1) := by decide +kernel
theorem dX8_findGroups_84 : decode cX8_findGroups 84 = .ok (.invokevirtual 144, 3) := by decide +kernel
theorem dX8_findGroups_87 : decode cX8_findGroups 87 = .ok (.aload_n 0, 1) := by decide +kernel
theorem dX8_findGroups_88 : decode cX8_findGroups 88 = .ok (.getfield 78, 3) := by decide +kernel
theorem dX8_findGroups_91 : decode cX8_findGroups 91 = .ok (.iload_n 3, 1) := by decide +kernel
theorem dX8_findGroups_92 : decode cX8_findGroups 92 = .ok (.dup2, 1) := by decide +kernel
theorem dX8_findGroups_93 : decode cX8_findGroups 93 = .ok (.iaload, 1) := by decide +kernel
theorem dX8_findGroups_94 : decode cX8_findGroups 94 = .ok (.iconst 1, 1) := by decide +kernel
theorem dX8_findGroups_95 : decode cX8_findGroups 95 = .ok (.iadd, 1) := by decide +kernel
theorem dX8_findGroups_96 : decode cX8_findGroups 96 = .ok (.iastore, 1) := by decide +kernel
theorem dX8_findGroups_97 : decode cX8_findGroups 97 = .ok (.aload_n 0, 1) := by decide +kernel
theorem dX8_findGroups_98 : decode cX8_findGroups 98 = .ok (.getfield 81, 3) := by decide +kernel
theorem dX8_findGroups_101 : decode cX8_findGroups 101 = .ok (.iload_n 3, 1) := by decide +kernel
theorem dX8_findGroups_102 : decode cX8_findGroups 102 = .ok (.laload, 1) := by decide +kernel
theorem dX8_findGroups_103 : decode cX8_findGroups 103 = .ok (.lstore 4, 2) := by decide +kernel
theorem dX8_findGroups_105 : decode cX8_findGroups 105 = .ok (.aload_n 0, 1) := by decide +kernel
theorem dX8_findGroups_106 : decode cX8_findGroups 106 = .ok (.getfield 81, 3) := by decide +kernel
theorem dX8_findGroups_109 : decode cX8_findGroups 109 = .ok (.iload_n 3, 1) := by decide +kernel
theorem dX8_findGroups_110 : decode cX8_findGroups 110 = .ok (.dup2, 1) := by decide +kernel
theorem dX8_findGroups_111 : decode cX8_findGroups 111 = .ok (.laload, 1) := by decide +kernel
theorem dX8_findGroups_112 : decode cX8_findGroups 112 = .ok (.aload_n 0, 1) := by decide +kernel
theorem dX8_findGroups_113 : decode cX8_findGroups 113 = .ok (.getfield 72, 3) := by decide +kernel
theorem dX8_findGroups_116 : decode cX8_findGroups 116 = .ok (.iload_n 2, 1) := by decide +kernel
theorem dX8_findGroups_117 : decode cX8_findGroups 117 = .ok (.laload, 1) := by decide +kernel
theorem dX8_findGroups_118 : decode cX8_findGroups 118 = .ok (.ladd, 1) := by decide +kernel
theorem dX8_findGroups_119 : decode cX8_findGroups 119 = .ok (.lastore, 1) := by decide +kernel
theorem dX8_findGroups_120 : decode cX8_findGroups 120 = .ok (.lload 4, 2) := by decide +kernel
theorem dX8_findGroups_122 : decode cX8_findGroups 122 = .ok (.aload_n 0, 1) := by decide +kernel
theorem dX8_findGroups_123 : decode cX8_findGroups 123 = .ok (.getfield 72, 3) := by decide +kernel
theorem dX8_findGroups_126 : decode cX8_findGroups 126 = .ok (.iload_n 2, 1) := by decide +kernel
theorem dX8_findGroups_127 : decode cX8_findGroups 127 = .ok (.laload, 1) := by decide +kernel
theorem dX8_findGroups_128 : decode cX8_findGroups 128 = .ok (.land, 1) := by decide +kernel
theorem dX8_findGroups_129 : decode cX8_findGroups 129 = .ok (.lload 4, 2) := by decide +kernel
theorem dX8_findGroups_131 : decode cX8_findGroups 131 = .ok (.aload_n 0, 1) := by decide +kernel
theorem dX8_findGroups_132 : decode cX8_findGroups 132 = .ok (.getfield 72, 3) := by decide +kernel
theorem dX8_findGroups_135 : decode cX8_findGroups 135 = .ok (.iload_n 2, 1) := by decide +kernel
theorem dX8_findGroups_136 : decode cX8_findGroups 136 = .ok (.laload, 1) := by decide +kernel
theorem dX8_findGroups_137 : decode cX8_findGroups 137 = .ok (.lor, 1) := by decide +kernel
theorem dX8_findGroups_138 : decode cX8_findGroups 138 = .ok (.aload_n 0, 1) := by decide +kernel
theorem dX8_findGroups_139 : decode cX8_findGroups 139 = .ok (.getfield 81, 3) := by decide +kernel
theorem dX8_findGroups_142 : decode cX8_findGroups 142 = .ok (.iload_n 3, 1) := by decide +kernel
theorem dX8_findGroups_143 : decode cX8_findGroups 143 = .ok (.laload, 1) := by decide +kernel
theorem dX8_findGroups_144 : decode cX8_findGroups 144 = .ok (.ldc2_w 120, 3) := by decide +kernel
theorem dX8_findGroups_147 : decode cX8_findGroups 147 = .ok (.lxor, 1) := by decide +kernel
theorem dX8_findGroups_148 : decode cX8_findGroups 148 = .ok (.land, 1) := by decide +kernel
theorem dX8_findGroups_149 : decode cX8_findGroups 149 = .ok (.lor, 1) := by decide +kernel
theorem dX8_findGroups_150 : decode cX8_findGroups 150 = .ok (.lconst 0, 1) := by decide +kernel
theorem dX8_findGroups_151 : decode cX8_findGroups 151 = .ok (.lcmp, 1) := by decide +kernel
theorem dX8_findGroups_152 : decode cX8_findGroups 152 = .ok (.ifCond .ge 7, 3) := by decide +kernel
theorem dX8_findGroups_155 : decode cX8_findGroups 155 = .ok (.iconst 1, 1) := by decide +kernel
theorem dX8_findGroups_156 : decode cX8_findGroups 156 = .ok (.goto 4, 3) := by decide +kernel
theorem dX8_findGroups_159 : decode cX8_findGroups 159 = .ok (.iconst 0, 1) := by decide +kernel
theorem dX8_findGroups_160 : decode cX8_findGroups 160 = .ok (.istore 6, 2) := by decide +kernel
theorem dX8_findGroups_162 : decode cX8_findGroups 162 = .ok (.aload_n 0, 1) := by decide +kernel
theorem dX8_findGroups_163 : decode cX8_findGroups 163 = .ok (.getfield 84, 3) := by decide +kernel
theorem dX8_findGroups_166 : decode cX8_findGroups 166 = .ok (.iload_n 3, 1) := by decide +kernel
theorem dX8_findGroups_167 : decode cX8_findGroups 167 = .ok (.dup2, 1) := by decide +kernel
theorem dX8_findGroups_168 : decode cX8_findGroups 168 = .ok (.laload, 1) := by decide +kernel
theorem dX8_findGroups_169 : decode cX8_findGroups 169 = .ok (.aload_n 0, 1) := by decide +kernel
theorem dX8_findGroups_170 : decode cX8_findGroups 170 = .ok (.getfield 72, 3) := by decide +kernel
theorem dX8_findGroups_173 : decode cX8_findGroups 173 = .ok (.iload_n 2, 1) := by decide +kernel
theorem dX8_findGroups_174 : decode cX8_findGroups 174 = .ok (.laload, 1) := by decide +kernel
theorem dX8_findGroups_175 : decode cX8_findGroups 175 = .ok (.lconst 0, 1) := by decide +kernel
theorem dX8_findGroups_176 : decode cX8_findGroups 176 = .ok (.lcmp, 1) := by decide +kernel
theorem dX8_findGroups_177 : decode cX8_findGroups 177 = .ok (.ifCond .ge 9, 3) := by decide +kernel
theorem dX8_findGroups_180 : decode cX8_findGroups 180 = .ok (.ldc2_w 120, 3) := by decide +kernel
theorem dX8_findGroups_183 : decode cX8_findGroups 183 = .ok (.goto 4, 3) := by decide +kernel
theorem dX8_findGroups_186 : decode cX8_findGroups 186 = .ok (.lconst 0, 1) := by decide +kernel
theorem dX8_findGroups_187 : decode cX8_findGroups 187 = .ok (.iload 6, 2) := by decide +kernel
theorem dX8_findGroups_189 : decode cX8_findGroups 189 = .ok (.ifCond .eq 7, 3) := by decide +kernel
theorem dX8_findGroups_192 : decode cX8_findGroups 192 = .ok (.lconst 1, 1) := by decide +kernel
theorem dX8_findGroups_193 : decode cX8_findGroups 193 = .ok (.goto 4, 3) := by decide +kernel
theorem dX8_findGroups_196 : decode cX8_findGroups 196 = .ok (.lconst 0, 1) := by decide +kernel
theorem dX8_findGroups_197 : decode cX8_findGroups 197 = .ok (.ladd, 1) := by decide +kernel
theorem dX8_findGroups_198 : decode cX8_findGroups 198 = .ok (.ladd, 1) := by decide +kernel
theorem dX8_findGroups_199 : decode cX8_findGroups 199 = .ok (.lastore, 1) := by decide +kernel
theorem dX8_findGroups_200 : decode cX8_findGroups 200 = .ok (.iinc 2 1, 3) := by decide +kernel
theorem dX8_findGroups_203 : decode cX8_findGroups 203 = .ok (.goto (-191), 3) := by decide +kernel
theorem dX8_findGroups_206 : decode cX8_findGroups 206 = .ok (.return_, 1) := by decide +kernel
theorem dX8_openGroup_0 : decode cX8_openGroup 0 = .ok (.aload_n 0, 1) := by decide +kernel
theorem dX8_openGroup_1 : decode cX8_openGroup 1 = .ok (.getfield 141, 3) := by decide +kernel
theorem dX8_openGroup_4 : decode cX8_openGroup 4 = .ok (.istore 4, 2) := by decide +kernel
theorem dX8_openGroup_6 : decode cX8_openGroup 6 = .ok (.iload 4, 2) := by decide +kernel
theorem dX8_openGroup_8 : decode cX8_openGroup 8 = .ok (.iload_n 1, 1) := by decide +kernel
theorem dX8_openGroup_9 : decode cX8_openGroup 9 = .ok (.if_icmp .le 73, 3) := by decide +kernel
theorem dX8_openGroup_12 : decode cX8_openGroup 12 = .ok (.aload_n 0, 1) := by decide +kernel
theorem dX8_openGroup_13 : decode cX8_openGroup 13 = .ok (.getfield 75, 3) := by decide +kernel
theorem dX8_openGroup_16 : decode cX8_openGroup 16 = .ok (.iload 4, 2) := by decide +kernel
theorem dX8_openGroup_18 : decode cX8_openGroup 18 = .ok (.aload_n 0, 1) := by decide +kernel
theorem dX8_openGroup_19 : decode cX8_openGroup 19 = .ok (.getfield 75, 3) := by decide +kernel
theorem dX8_openGroup_22 : decode cX8_openGroup 22 = .ok (.iload 4, 2) := by decide +kernel
theorem dX8_openGroup_24 : decode cX8_openGroup 24 = .ok (.iconst 1, 1) := by decide +kernel
theorem dX8_openGroup_25 : decode cX8_openGroup 25 = .ok (.isub, 1) := by decide +kernel
theorem dX8_openGroup_26 : decode cX8_openGroup 26 = .ok (.laload, 1) := by decide +kernel
theorem dX8_openGroup_27 : decode cX8_openGroup 27 = .ok (.lastore, 1) := by decide +kernel
theorem dX8_openGroup_28 : decode cX8_openGroup 28 = .ok (.aload_n 0, 1) := by decide +kernel
theorem dX8_openGroup_29 : decode cX8_openGroup 29 = .ok (.getfield 78, 3) := by decide +kernel
theorem dX8_openGroup_32 : decode cX8_openGroup 32 = .ok (.iload 4, 2) := by decide +kernel
theorem dX8_openGroup_34 : decode cX8_openGroup 34 = .ok (.aload_n 0, 1) := by decide +kernel
theorem dX8_openGroup_35 : decode cX8_openGroup 35 = .ok (.getfield 78, 3) := by decide +kernel
theorem dX8_openGroup_38 : decode cX8_openGroup 38 = .ok (.iload 4, 2) := by decide +kernel
theorem dX8_openGroup_40 : decode cX8_openGroup 40 = .ok (.iconst 1, 1) := by decide +kernel
theorem dX8_openGroup_41 : decode cX8_openGroup 41 = .ok (.isub, 1) := by decide +kernel
theorem dX8_openGroup_42 : decode cX8_openGroup 42 = .ok (.iaload, 1) := by decide +kernel
theorem dX8_openGroup_43 : decode cX8_openGroup 43 = .ok (.iastore, 1) := by decide +kernel
theorem dX8_openGroup_44 : decode cX8_openGroup 44 = .ok (.aload_n 0, 1) := by decide +kernel
theorem dX8_openGroup_45 : decode cX8_openGroup 45 = .ok (.getfield 81, 3) := by decide +kernel
theorem dX8_openGroup_48 : decode cX8_openGroup 48 = .ok (.iload 4, 2) := by decide +kernel
theorem dX8_openGroup_50 : decode cX8_openGroup 50 = .ok (.aload_n 0, 1) := by decide +kernel
theorem dX8_openGroup_51 : decode cX8_openGroup 51 = .ok (.getfield 81, 3) := by decide +kernel
theorem dX8_openGroup_54 : decode cX8_openGroup 54 = .ok (.iload 4, 2) := by decide +kernel
theorem dX8_openGroup_56 : decode cX8_openGroup 56 = .ok (.iconst 1, 1) := by decide +kernel
theorem dX8_openGroup_57 : decode cX8_openGroup 57 = .ok (.isub, 1) := by decide +kernel
theorem dX8_openGroup_58 : decode cX8_openGroup 58 = .ok (.laload, 1) := by decide +kernel
theorem dX8_openGroup_59 : decode cX8_openGroup 59 = .ok (.lastore, 1) := by decide +kernel
theorem dX8_openGroup_60 : decode cX8_openGroup 60 = .ok (.aload_n 0, 1) := by decide +kernel
theorem dX8_openGroup_61 : decode cX8_openGroup 61 = .ok (.getfield 84, 3) := by decide +kernel
theorem dX8_openGroup_64 : decode cX8_openGroup 64 = .ok (.iload 4, 2) := by decide +kernel
theorem dX8_openGroup_66 : decode cX8_openGroup 66 = .ok (.aload_n 0, 1) := by decide +kernel
theorem dX8_openGroup_67 : decode cX8_openGroup 67 = .ok (.getfield 84, 3) := by decide +kernel
theorem dX8_openGroup_70 : decode cX8_openGroup 70 = .ok (.iload 4, 2) := by decide +kernel
theorem dX8_openGroup_72 : decode cX8_openGroup 72 = .ok (.iconst 1, 1) := by decide +kernel
theorem dX8_openGroup_73 : decode cX8_openGroup 73 = .ok (.isub, 1) := by decide +kernel
theorem dX8_openGroup_74 : decode cX8_openGroup 74 = .ok (.laload, 1) := by decide +kernel
theorem dX8_openGroup_75 : decode cX8_openGroup 75 = .ok (.lastore, 1) := by decide +kernel
theorem dX8_openGroup_76 : decode cX8_openGroup 76 = .ok (.iinc 4 (-1), 3) := by decide +kernel
theorem dX8_openGroup_79 : decode cX8_openGroup 79 = .ok (.goto (-73), 3) := by decide +kernel
theorem dX8_openGroup_82 : decode cX8_openGroup 82 = .ok (.aload_n 0, 1) := by decide +kernel
theorem dX8_openGroup_83 : decode cX8_openGroup 83 = .ok (.getfield 75, 3) := by decide +kernel
theorem dX8_openGroup_86 : decode cX8_openGroup 86 = .ok (.iload_n 1, 1) := by decide +kernel
theorem dX8_openGroup_87 : decode cX8_openGroup 87 = .ok (.lload_n 2, 1) := by decide +kernel
theorem dX8_openGroup_88 : decode cX8_openGroup 88 = .ok (.lastore, 1) := by decide +kernel
theorem dX8_openGroup_89 : decode cX8_openGroup 89 = .ok (.aload_n 0, 1) := by decide +kernel
theorem dX8_openGroup_90 : decode cX8_openGroup 90 = .ok (.getfield 78, 3) := by decide +kernel
theorem dX8_openGroup_93 : decode cX8_openGroup 93 = .ok (.iload_n 1, 1) := by decide +kernel
theorem dX8_openGroup_94 : decode cX8_openGroup 94 = .ok (.iconst 0, 1) := by decide +kernel
theorem dX8_openGroup_95 : decode cX8_openGroup 95 = .ok (.iastore, 1) := by decide +kernel
theorem dX8_openGroup_96 : decode cX8_openGroup 96 = .ok (.aload_n 0, 1) := by decide +kernel
theorem dX8_openGroup_97 : decode cX8_openGroup 97 = .ok (.getfield 81, 3) := by decide +kernel
theorem dX8_openGroup_100 : decode cX8_openGroup 100 = .ok (.iload_n 1, 1) := by decide +kernel
theorem dX8_openGroup_101 : decode cX8_openGroup 101 = .ok (.lconst 0, 1) := by decide +kernel
theorem dX8_openGroup_102 : decode cX8_openGroup 102 = .ok (.lastore, 1) := by decide +kernel
theorem dX8_openGroup_103 : decode cX8_openGroup 103 = .ok (.aload_n 0, 1) := by decide +kernel
theorem dX8_openGroup_104 : decode cX8_openGroup 104 = .ok (.getfield 84, 3) := by decide +kernel
theorem dX8_openGroup_107 : decode cX8_openGroup 107 = .ok (.iload_n 1, 1) := by decide +kernel
theorem dX8_openGroup_108 : decode cX8_openGroup 108 = .ok (.lconst 0, 1) := by decide +kernel
theorem dX8_openGroup_109 : decode cX8_openGroup 109 = .ok (.lastore, 1) := by decide +kernel
theorem dX8_openGroup_110 : decode cX8_openGroup 110 = .ok (.aload_n 0, 1) := by decide +kernel
theorem dX8_openGroup_111 : decode cX8_openGroup 111 = .ok (.dup, 1) := by decide +kernel
theorem dX8_openGroup_112 : decode cX8_openGroup 112 = .ok (.getfield 141, 3) := by decide +kernel
theorem dX8_openGroup_115 : decode cX8_openGroup 115 = .ok (.iconst 1, 1) := by decide +kernel
theorem dX8_openGroup_116 : decode cX8_openGroup 116 = .ok (.iadd, 1) := by decide +kernel
theorem dX8_openGroup_117 : decode cX8_openGroup 117 = .ok (.putfield 141, 3) := by decide +kernel
theorem dX8_openGroup_120 : decode cX8_openGroup 120 = .ok (.return_, 1) := by decide +kernel
theorem dX8_keep_0 : decode cX8_keep 0 = .ok (.iconst 0, 1) := by decide +kernel
theorem dX8_keep_1 : decode cX8_keep 1 = .ok (.istore_n 1, 1) := by decide +kernel
theorem dX8_keep_2 : decode cX8_keep 2 = .ok (.iload_n 1, 1) := by decide +kernel
theorem dX8_keep_3 : decode cX8_keep 3 = .ok (.aload_n 0, 1) := by decide +kernel
theorem dX8_keep_4 : decode cX8_keep 4 = .ok (.getfield 148, 3) := by decide +kernel
theorem dX8_keep_7 : decode cX8_keep 7 = .ok (.if_icmp .ge 74, 3) := by decide +kernel
theorem dX8_keep_10 : decode cX8_keep 10 = .ok (.aload_n 0, 1) := by decide +kernel
theorem dX8_keep_11 : decode cX8_keep 11 = .ok (.iload_n 1, 1) := by decide +kernel
theorem dX8_keep_12 : decode cX8_keep 12 = .ok (.invokevirtual 137, 3) := by decide +kernel
theorem dX8_keep_15 : decode cX8_keep 15 = .ok (.iconst 0, 1) := by decide +kernel
theorem dX8_keep_16 : decode cX8_keep 16 = .ok (.istore_n 2, 1) := by decide +kernel
theorem dX8_keep_17 : decode cX8_keep 17 = .ok (.iload_n 2, 1) := by decide +kernel
theorem dX8_keep_18 : decode cX8_keep 18 = .ok (.bipush 60, 2) := by decide +kernel
theorem dX8_keep_20 : decode cX8_keep 20 = .ok (.if_icmp .ge 21, 3) := by decide +kernel
theorem dX8_keep_23 : decode cX8_keep 23 = .ok (.aload_n 0, 1) := by decide +kernel
theorem dX8_keep_24 : decode cX8_keep 24 = .ok (.getfield 51, 3) := by decide +kernel
theorem dX8_keep_27 : decode cX8_keep 27 = .ok (.bipush 60, 2) := by decide +kernel
theorem dX8_keep_29 : decode cX8_keep 29 = .ok (.iload_n 1, 1) := by decide +kernel
theorem dX8_keep_30 : decode cX8_keep 30 = .ok (.imul, 1) := by decide +kernel
theorem dX8_keep_31 : decode cX8_keep 31 = .ok (.iload_n 2, 1) := by decide +kernel
theorem dX8_keep_32 : decode cX8_keep 32 = .ok (.iadd, 1) := by decide +kernel
theorem dX8_keep_33 : decode cX8_keep 33 = .ok (.iconst 0, 1) := by decide +kernel
theorem dX8_keep_34 : decode cX8_keep 34 = .ok (.bastore, 1) := by decide +kernel
theorem dX8_keep_35 : decode cX8_keep 35 = .ok (.iinc 2 1, 3) := by decide +kernel
theorem dX8_keep_38 : decode cX8_keep 38 = .ok (.goto (-21), 3) := by decide +kernel
theorem dX8_keep_41 : decode cX8_keep 41 = .ok (.iconst 0, 1) := by decide +kernel
theorem dX8_keep_42 : decode cX8_keep 42 = .ok (.istore_n 2, 1) := by decide +kernel
theorem dX8_keep_43 : decode cX8_keep 43 = .ok (.iload_n 2, 1) := by decide +kernel
theorem dX8_keep_44 : decode cX8_keep 44 = .ok (.aload_n 0, 1) := by decide +kernel
theorem dX8_keep_45 : decode cX8_keep 45 = .ok (.iload_n 1, 1) := by decide +kernel
theorem dX8_keep_46 : decode cX8_keep 46 = .ok (.invokevirtual 151, 3) := by decide +kernel
theorem dX8_keep_49 : decode cX8_keep 49 = .ok (.if_icmp .ge 26, 3) := by decide +kernel
theorem dX8_keep_52 : decode cX8_keep 52 = .ok (.aload_n 0, 1) := by decide +kernel
theorem dX8_keep_53 : decode cX8_keep 53 = .ok (.getfield 51, 3) := by decide +kernel
theorem dX8_keep_56 : decode cX8_keep 56 = .ok (.bipush 60, 2) := by decide +kernel
theorem dX8_keep_58 : decode cX8_keep 58 = .ok (.iload_n 1, 1) := by decide +kernel
theorem dX8_keep_59 : decode cX8_keep 59 = .ok (.imul, 1) := by decide +kernel
theorem dX8_keep_60 : decode cX8_keep 60 = .ok (.aload_n 0, 1) := by decide +kernel
theorem dX8_keep_61 : decode cX8_keep 61 = .ok (.getfield 63, 3) := by decide +kernel
theorem dX8_keep_64 : decode cX8_keep 64 = .ok (.iload_n 2, 1) := by decide +kernel
theorem dX8_keep_65 : decode cX8_keep 65 = .ok (.iaload, 1) := by decide +kernel
theorem dX8_keep_66 : decode cX8_keep 66 = .ok (.iadd, 1) := by decide +kernel
theorem dX8_keep_67 : decode cX8_keep 67 = .ok (.iconst 1, 1) := by decide +kernel
theorem dX8_keep_68 : decode cX8_keep 68 = .ok (.bastore, 1) := by decide +kernel
theorem dX8_keep_69 : decode cX8_keep 69 = .ok (.iinc 2 1, 3) := by decide +kernel
theorem dX8_keep_72 : decode cX8_keep 72 = .ok (.goto (-29), 3) := by decide +kernel
theorem dX8_keep_75 : decode cX8_keep 75 = .ok (.iinc 1 1, 3) := by decide +kernel
theorem dX8_keep_78 : decode cX8_keep 78 = .ok (.goto (-76), 3) := by decide +kernel
theorem dX8_keep_81 : decode cX8_keep 81 = .ok (.return_, 1) := by decide +kernel
theorem dX8_tell_0 : decode cX8_tell 0 = .ok (.iconst 0, 1) := by decide +kernel
theorem dX8_tell_1 : decode cX8_tell 1 = .ok (.istore_n 3, 1) := by decide +kernel
theorem dX8_tell_2 : decode cX8_tell 2 = .ok (.iload_n 3, 1) := by decide +kernel
theorem dX8_tell_3 : decode cX8_tell 3 = .ok (.bipush 60, 2) := by decide +kernel
theorem dX8_tell_5 : decode cX8_tell 5 = .ok (.if_icmp .ge 95, 3) := by decide +kernel
theorem dX8_tell_8 : decode cX8_tell 8 = .ok (.aload_n 0, 1) := by decide +kernel
theorem dX8_tell_9 : decode cX8_tell 9 = .ok (.getfield 87, 3) := by decide +kernel
theorem dX8_tell_12 : decode cX8_tell 12 = .ok (.iload_n 3, 1) := by decide +kernel
theorem dX8_tell_13 : decode cX8_tell 13 = .ok (.baload, 1) := by decide +kernel
theorem dX8_tell_14 : decode cX8_tell 14 = .ok (.iload_n 2, 1) := by decide +kernel
theorem dX8_tell_15 : decode cX8_tell 15 = .ok (.if_icmp .ne 79, 3) := by decide +kernel
theorem dX8_tell_18 : decode cX8_tell 18 = .ok (.aload_n 0, 1) := by decide +kernel
theorem dX8_tell_19 : decode cX8_tell 19 = .ok (.getfield 51, 3) := by decide +kernel
theorem dX8_tell_22 : decode cX8_tell 22 = .ok (.bipush 60, 2) := by decide +kernel
theorem dX8_tell_24 : decode cX8_tell 24 = .ok (.iload_n 1, 1) := by decide +kernel
theorem dX8_tell_25 : decode cX8_tell 25 = .ok (.imul, 1) := by decide +kernel
theorem dX8_tell_26 : decode cX8_tell 26 = .ok (.iload_n 3, 1) := by decide +kernel
theorem dX8_tell_27 : decode cX8_tell 27 = .ok (.iadd, 1) := by decide +kernel
theorem dX8_tell_28 : decode cX8_tell 28 = .ok (.baload, 1) := by decide +kernel
theorem dX8_tell_29 : decode cX8_tell 29 = .ok (.iload_n 2, 1) := by decide +kernel
theorem dX8_tell_30 : decode cX8_tell 30 = .ok (.if_icmp .ne 6, 3) := by decide +kernel
theorem dX8_tell_33 : decode cX8_tell 33 = .ok (.goto 61, 3) := by decide +kernel
theorem dX8_tell_36 : decode cX8_tell 36 = .ok (.aload_n 0, 1) := by decide +kernel
theorem dX8_tell_37 : decode cX8_tell 37 = .ok (.getfield 48, 3) := by decide +kernel
theorem dX8_tell_40 : decode cX8_tell 40 = .ok (.iconst 3, 1) := by decide +kernel
theorem dX8_tell_41 : decode cX8_tell 41 = .ok (.aload_n 0, 1) := by decide +kernel
theorem dX8_tell_42 : decode cX8_tell 42 = .ok (.getfield 155, 3) := by decide +kernel
theorem dX8_tell_45 : decode cX8_tell 45 = .ok (.imul, 1) := by decide +kernel
theorem dX8_tell_46 : decode cX8_tell 46 = .ok (.iload_n 1, 1) := by decide +kernel
theorem dX8_tell_47 : decode cX8_tell 47 = .ok (.iastore, 1) := by decide +kernel
theorem dX8_tell_48 : decode cX8_tell 48 = .ok (.aload_n 0, 1) := by decide +kernel
theorem dX8_tell_49 : decode cX8_tell 49 = .ok (.getfield 48, 3) := by decide +kernel
theorem dX8_tell_52 : decode cX8_tell 52 = .ok (.iconst 3, 1) := by decide +kernel
theorem dX8_tell_53 : decode cX8_tell 53 = .ok (.aload_n 0, 1) := by decide +kernel
theorem dX8_tell_54 : decode cX8_tell 54 = .ok (.getfield 155, 3) := by decide +kernel
theorem dX8_tell_57 : decode cX8_tell 57 = .ok (.imul, 1) := by decide +kernel
theorem dX8_tell_58 : decode cX8_tell 58 = .ok (.iconst 1, 1) := by decide +kernel
theorem dX8_tell_59 : decode cX8_tell 59 = .ok (.iadd, 1) := by decide +kernel
theorem dX8_tell_60 : decode cX8_tell 60 = .ok (.iload_n 3, 1) := by decide +kernel
theorem dX8_tell_61 : decode cX8_tell 61 = .ok (.iastore, 1) := by decide +kernel
theorem dX8_tell_62 : decode cX8_tell 62 = .ok (.aload_n 0, 1) := by decide +kernel
theorem dX8_tell_63 : decode cX8_tell 63 = .ok (.getfield 48, 3) := by decide +kernel
theorem dX8_tell_66 : decode cX8_tell 66 = .ok (.iconst 3, 1) := by decide +kernel
theorem dX8_tell_67 : decode cX8_tell 67 = .ok (.aload_n 0, 1) := by decide +kernel
theorem dX8_tell_68 : decode cX8_tell 68 = .ok (.getfield 155, 3) := by decide +kernel
theorem dX8_tell_71 : decode cX8_tell 71 = .ok (.imul, 1) := by decide +kernel
theorem dX8_tell_72 : decode cX8_tell 72 = .ok (.iconst 2, 1) := by decide +kernel
theorem dX8_tell_73 : decode cX8_tell 73 = .ok (.iadd, 1) := by decide +kernel
theorem dX8_tell_74 : decode cX8_tell 74 = .ok (.iload_n 2, 1) := by decide +kernel
theorem dX8_tell_75 : decode cX8_tell 75 = .ok (.ifCond .eq 7, 3) := by decide +kernel
theorem dX8_tell_78 : decode cX8_tell 78 = .ok (.iconst 1, 1) := by decide +kernel
theorem dX8_tell_79 : decode cX8_tell 79 = .ok (.goto 4, 3) := by decide +kernel
theorem dX8_tell_82 : decode cX8_tell 82 = .ok (.iconst 0, 1) := by decide +kernel
theorem dX8_tell_83 : decode cX8_tell 83 = .ok (.iastore, 1) := by decide +kernel
theorem dX8_tell_84 : decode cX8_tell 84 = .ok (.aload_n 0, 1) := by decide +kernel
theorem dX8_tell_85 : decode cX8_tell 85 = .ok (.dup, 1) := by decide +kernel
theorem dX8_tell_86 : decode cX8_tell 86 = .ok (.getfield 155, 3) := by decide +kernel
theorem dX8_tell_89 : decode cX8_tell 89 = .ok (.iconst 1, 1) := by decide +kernel
theorem dX8_tell_90 : decode cX8_tell 90 = .ok (.iadd, 1) := by decide +kernel
theorem dX8_tell_91 : decode cX8_tell 91 = .ok (.putfield 155, 3) := by decide +kernel
theorem dX8_tell_94 : decode cX8_tell 94 = .ok (.iinc 3 1, 3) := by decide +kernel
theorem dX8_tell_97 : decode cX8_tell 97 = .ok (.goto (-95), 3) := by decide +kernel
theorem dX8_tell_100 : decode cX8_tell 100 = .ok (.return_, 1) := by decide +kernel
theorem dX8_settle_0 : decode cX8_settle 0 = .ok (.aload_n 0, 1) := by decide +kernel
theorem dX8_settle_1 : decode cX8_settle 1 = .ok (.iconst 0, 1) := by decide +kernel
theorem dX8_settle_2 : decode cX8_settle 2 = .ok (.putfield 155, 3) := by decide +kernel
theorem dX8_settle_5 : decode cX8_settle 5 = .ok (.iconst 0, 1) := by decide +kernel
theorem dX8_settle_6 : decode cX8_settle 6 = .ok (.istore_n 1, 1) := by decide +kernel
theorem dX8_settle_7 : decode cX8_settle 7 = .ok (.iload_n 1, 1) := by decide +kernel
theorem dX8_settle_8 : decode cX8_settle 8 = .ok (.aload_n 0, 1) := by decide +kernel
theorem dX8_settle_9 : decode cX8_settle 9 = .ok (.getfield 148, 3) := by decide +kernel
theorem dX8_settle_12 : decode cX8_settle 12 = .ok (.if_icmp .ge 76, 3) := by decide +kernel
theorem dX8_settle_15 : decode cX8_settle 15 = .ok (.aload_n 0, 1) := by decide +kernel
theorem dX8_settle_16 : decode cX8_settle 16 = .ok (.iload_n 1, 1) := by decide +kernel
theorem dX8_settle_17 : decode cX8_settle 17 = .ok (.invokevirtual 137, 3) := by decide +kernel
theorem dX8_settle_20 : decode cX8_settle 20 = .ok (.iconst 0, 1) := by decide +kernel
theorem dX8_settle_21 : decode cX8_settle 21 = .ok (.istore_n 2, 1) := by decide +kernel
theorem dX8_settle_22 : decode cX8_settle 22 = .ok (.iload_n 2, 1) := by decide +kernel
theorem dX8_settle_23 : decode cX8_settle 23 = .ok (.bipush 60, 2) := by decide +kernel
theorem dX8_settle_25 : decode cX8_settle 25 = .ok (.if_icmp .ge 16, 3) := by decide +kernel
theorem dX8_settle_28 : decode cX8_settle 28 = .ok (.aload_n 0, 1) := by decide +kernel
theorem dX8_settle_29 : decode cX8_settle 29 = .ok (.getfield 87, 3) := by decide +kernel
theorem dX8_settle_32 : decode cX8_settle 32 = .ok (.iload_n 2, 1) := by decide +kernel
theorem dX8_settle_33 : decode cX8_settle 33 = .ok (.iconst 0, 1) := by decide +kernel
theorem dX8_settle_34 : decode cX8_settle 34 = .ok (.bastore, 1) := by decide +kernel
theorem dX8_settle_35 : decode cX8_settle 35 = .ok (.iinc 2 1, 3) := by decide +kernel
theorem dX8_settle_38 : decode cX8_settle 38 = .ok (.goto (-16), 3) := by decide +kernel
theorem dX8_settle_41 : decode cX8_settle 41 = .ok (.iconst 0, 1) := by decide +kernel
theorem dX8_settle_42 : decode cX8_settle 42 = .ok (.istore_n 2, 1) := by decide +kernel
theorem dX8_settle_43 : decode cX8_settle 43 = .ok (.iload_n 2, 1) := by decide +kernel
theorem dX8_settle_44 : decode cX8_settle 44 = .ok (.aload_n 0, 1) := by decide +kernel
theorem dX8_settle_45 : decode cX8_settle 45 = .ok (.iload_n 1, 1) := by decide +kernel
theorem dX8_settle_46 : decode cX8_settle 46 = .ok (.invokevirtual 151, 3) := by decide +kernel
theorem dX8_settle_49 : decode cX8_settle 49 = .ok (.if_icmp .ge 21, 3) := by decide +kernel
theorem dX8_settle_52 : decode cX8_settle 52 = .ok (.aload_n 0, 1) := by decide +kernel
theorem dX8_settle_53 : decode cX8_settle 53 = .ok (.getfield 87, 3) := by decide +kernel
theorem dX8_settle_56 : decode cX8_settle 56 = .ok (.aload_n 0, 1) := by decide +kernel
theorem dX8_settle_57 : decode cX8_settle 57 = .ok (.getfield 63, 3) := by decide +kernel
theorem dX8_settle_60 : decode cX8_settle 60 = .ok (.iload_n 2, 1) := by decide +kernel
theorem dX8_settle_61 : decode cX8_settle 61 = .ok (.iaload, 1) := by decide +kernel
theorem dX8_settle_62 : decode cX8_settle 62 = .ok (.iconst 1, 1) := by decide +kernel
theorem dX8_settle_63 : decode cX8_settle 63 = .ok (.bastore, 1) := by decide +kernel
theorem dX8_settle_64 : decode cX8_settle 64 = .ok (.iinc 2 1, 3) := by decide +kernel
theorem dX8_settle_67 : decode cX8_settle 67 = .ok (.goto (-24), 3) := by decide +kernel
theorem dX8_settle_70 : decode cX8_settle 70 = .ok (.aload_n 0, 1) := by decide +kernel
theorem dX8_settle_71 : decode cX8_settle 71 = .ok (.iload_n 1, 1) := by decide +kernel
theorem dX8_settle_72 : decode cX8_settle 72 = .ok (.iconst 0, 1) := by decide +kernel
theorem dX8_settle_73 : decode cX8_settle 73 = .ok (.invokevirtual 158, 3) := by decide +kernel
theorem dX8_settle_76 : decode cX8_settle 76 = .ok (.aload_n 0, 1) := by decide +kernel
theorem dX8_settle_77 : decode cX8_settle 77 = .ok (.iload_n 1, 1) := by decide +kernel
theorem dX8_settle_78 : decode cX8_settle 78 = .ok (.iconst 1, 1) := by decide +kernel
theorem dX8_settle_79 : decode cX8_settle 79 = .ok (.invokevirtual 158, 3) := by decide +kernel
theorem dX8_settle_82 : decode cX8_settle 82 = .ok (.iinc 1 1, 3) := by decide +kernel
theorem dX8_settle_85 : decode cX8_settle 85 = .ok (.goto (-78), 3) := by decide +kernel
theorem dX8_settle_88 : decode cX8_settle 88 = .ok (.aload_n 0, 1) := by decide +kernel
theorem dX8_settle_89 : decode cX8_settle 89 = .ok (.getfield 155, 3) := by decide +kernel
theorem dX8_settle_92 : decode cX8_settle 92 = .ok (.ireturn, 1) := by decide +kernel
theorem dX8_object_0 : decode cX8_object 0 = .ok (.aload_n 0, 1) := by decide +kernel
theorem dX8_object_1 : decode cX8_object 1 = .ok (.iconst 0, 1) := by decide +kernel
theorem dX8_object_2 : decode cX8_object 2 = .ok (.putfield 90, 3) := by decide +kernel
theorem dX8_object_5 : decode cX8_object 5 = .ok (.iload_n 1, 1) := by decide +kernel
theorem dX8_object_6 : decode cX8_object 6 = .ok (.iconst 0, 1) := by decide +kernel
theorem dX8_object_7 : decode cX8_object 7 = .ok (.iconst 3, 1) := by decide +kernel
theorem dX8_object_8 : decode cX8_object 8 = .ok (.invokestatic 97, 3) := by decide +kernel
theorem dX8_object_11 : decode cX8_object 11 = .ok (.ifCond .eq 12, 3) := by decide +kernel
theorem dX8_object_14 : decode cX8_object 14 = .ok (.aload_n 0, 1) := by decide +kernel
theorem dX8_object_15 : decode cX8_object 15 = .ok (.getfield 94, 3) := by decide +kernel
theorem dX8_object_18 : decode cX8_object 18 = .ok (.bipush 60, 2) := by decide +kernel
theorem dX8_object_20 : decode cX8_object 20 = .ok (.if_icmp .ne 5, 3) := by decide +kernel
theorem dX8_object_23 : decode cX8_object 23 = .ok (.iconst (-1), 1) := by decide +kernel
theorem dX8_object_24 : decode cX8_object 24 = .ok (.ireturn, 1) := by decide +kernel
theorem dX8_object_25 : decode cX8_object 25 = .ok (.aload_n 0, 1) := by decide +kernel
theorem dX8_object_26 : decode cX8_object 26 = .ok (.invokevirtual 162, 3) := by decide +kernel
theorem dX8_object_29 : decode cX8_object 29 = .ok (.aload_n 0, 1) := by decide +kernel
theorem dX8_object_30 : decode cX8_object 30 = .ok (.getfield 13, 3) := by decide +kernel
theorem dX8_object_33 : decode cX8_object 33 = .ok (.aload_n 0, 1) := by decide +kernel
theorem dX8_object_34 : decode cX8_object 34 = .ok (.getfield 94, 3) := by decide +kernel
theorem dX8_object_37 : decode cX8_object 37 = .ok (.iconst 1, 1) := by decide +kernel
theorem dX8_object_38 : decode cX8_object 38 = .ok (.bastore, 1) := by decide +kernel
theorem dX8_object_39 : decode cX8_object 39 = .ok (.aload_n 0, 1) := by decide +kernel
theorem dX8_object_40 : decode cX8_object 40 = .ok (.getfield 17, 3) := by decide +kernel
theorem dX8_object_43 : decode cX8_object 43 = .ok (.aload_n 0, 1) := by decide +kernel
theorem dX8_object_44 : decode cX8_object 44 = .ok (.getfield 94, 3) := by decide +kernel
theorem dX8_object_47 : decode cX8_object 47 = .ok (.iload_n 1, 1) := by decide +kernel
theorem dX8_object_48 : decode cX8_object 48 = .ok (.iastore, 1) := by decide +kernel
theorem dX8_object_49 : decode cX8_object 49 = .ok (.aload_n 0, 1) := by decide +kernel
theorem dX8_object_50 : decode cX8_object 50 = .ok (.getfield 24, 3) := by decide +kernel
theorem dX8_object_53 : decode cX8_object 53 = .ok (.aload_n 0, 1) := by decide +kernel
theorem dX8_object_54 : decode cX8_object 54 = .ok (.getfield 94, 3) := by decide +kernel
theorem dX8_object_57 : decode cX8_object 57 = .ok (.iconst (-1), 1) := by decide +kernel
theorem dX8_object_58 : decode cX8_object 58 = .ok (.iastore, 1) := by decide +kernel
theorem dX8_object_59 : decode cX8_object 59 = .ok (.aload_n 0, 1) := by decide +kernel
theorem dX8_object_60 : decode cX8_object 60 = .ok (.dup, 1) := by decide +kernel
theorem dX8_object_61 : decode cX8_object 61 = .ok (.getfield 94, 3) := by decide +kernel
theorem dX8_object_64 : decode cX8_object 64 = .ok (.iconst 1, 1) := by decide +kernel
theorem dX8_object_65 : decode cX8_object 65 = .ok (.iadd, 1) := by decide +kernel
theorem dX8_object_66 : decode cX8_object 66 = .ok (.putfield 94, 3) := by decide +kernel
theorem dX8_object_69 : decode cX8_object 69 = .ok (.aload_n 0, 1) := by decide +kernel
theorem dX8_object_70 : decode cX8_object 70 = .ok (.invokevirtual 165, 3) := by decide +kernel
theorem dX8_object_73 : decode cX8_object 73 = .ok (.istore_n 2, 1) := by decide +kernel
theorem dX8_object_74 : decode cX8_object 74 = .ok (.iload_n 2, 1) := by decide +kernel
theorem dX8_object_75 : decode cX8_object 75 = .ok (.ifCond .ge 7, 3) := by decide +kernel
theorem dX8_object_78 : decode cX8_object 78 = .ok (.iconst (-1), 1) := by decide +kernel
theorem dX8_object_79 : decode cX8_object 79 = .ok (.goto 9, 3) := by decide +kernel
theorem dX8_object_82 : decode cX8_object 82 = .ok (.aload_n 0, 1) := by decide +kernel
theorem dX8_object_83 : decode cX8_object 83 = .ok (.getfield 94, 3) := by decide +kernel
theorem dX8_object_86 : decode cX8_object 86 = .ok (.iconst 1, 1) := by decide +kernel
theorem dX8_object_87 : decode cX8_object 87 = .ok (.isub, 1) := by decide +kernel
theorem dX8_object_88 : decode cX8_object 88 = .ok (.ireturn, 1) := by decide +kernel
theorem dX8_put_0 : decode cX8_put 0 = .ok (.aload_n 0, 1) := by decide +kernel
theorem dX8_put_1 : decode cX8_put 1 = .ok (.iconst 0, 1) := by decide +kernel
theorem dX8_put_2 : decode cX8_put 2 = .ok (.putfield 90, 3) := by decide +kernel
theorem dX8_put_5 : decode cX8_put 5 = .ok (.aload_n 0, 1) := by decide +kernel
theorem dX8_put_6 : decode cX8_put 6 = .ok (.iload_n 1, 1) := by decide +kernel
theorem dX8_put_7 : decode cX8_put 7 = .ok (.invokevirtual 168, 3) := by decide +kernel
theorem dX8_put_10 : decode cX8_put 10 = .ok (.ifCond .eq 12, 3) := by decide +kernel
theorem dX8_put_13 : decode cX8_put 13 = .ok (.iload_n 2, 1) := by decide +kernel
theorem dX8_put_14 : decode cX8_put 14 = .ok (.iconst 0, 1) := by decide +kernel
theorem dX8_put_15 : decode cX8_put 15 = .ok (.iconst 2, 1) := by decide +kernel
theorem dX8_put_16 : decode cX8_put 16 = .ok (.invokestatic 97, 3) := by decide +kernel
theorem dX8_put_19 : decode cX8_put 19 = .ok (.ifCond .ne 5, 3) := by decide +kernel
theorem dX8_put_22 : decode cX8_put 22 = .ok (.iconst (-1), 1) := by decide +kernel
theorem dX8_put_23 : decode cX8_put 23 = .ok (.ireturn, 1) := by decide +kernel
theorem dX8_put_24 : decode cX8_put 24 = .ok (.aload_n 0, 1) := by decide +kernel
theorem dX8_put_25 : decode cX8_put 25 = .ok (.invokevirtual 162, 3) := by decide +kernel
theorem dX8_put_28 : decode cX8_put 28 = .ok (.aload_n 0, 1) := by decide +kernel
theorem dX8_put_29 : decode cX8_put 29 = .ok (.getfield 20, 3) := by decide +kernel
theorem dX8_put_32 : decode cX8_put 32 = .ok (.iconst 3, 1) := by decide +kernel
theorem dX8_put_33 : decode cX8_put 33 = .ok (.iload_n 1, 1) := by decide +kernel
theorem dX8_put_34 : decode cX8_put 34 = .ok (.imul, 1) := by decide +kernel
theorem dX8_put_35 : decode cX8_put 35 = .ok (.iload_n 2, 1) := by decide +kernel
theorem dX8_put_36 : decode cX8_put 36 = .ok (.iadd, 1) := by decide +kernel
theorem dX8_put_37 : decode cX8_put 37 = .ok (.lload_n 3, 1) := by decide +kernel
theorem dX8_put_38 : decode cX8_put 38 = .ok (.lastore, 1) := by decide +kernel
theorem dX8_put_39 : decode cX8_put 39 = .ok (.aload_n 0, 1) := by decide +kernel
theorem dX8_put_40 : decode cX8_put 40 = .ok (.invokevirtual 165, 3) := by decide +kernel
theorem dX8_put_43 : decode cX8_put 43 = .ok (.ireturn, 1) := by decide +kernel
theorem dX8_refer_0 : decode cX8_refer 0 = .ok (.aload_n 0, 1) := by decide +kernel
theorem dX8_refer_1 : decode cX8_refer 1 = .ok (.iconst 0, 1) := by decide +kernel
theorem dX8_refer_2 : decode cX8_refer 2 = .ok (.putfield 90, 3) := by decide +kernel
theorem dX8_refer_5 : decode cX8_refer 5 = .ok (.aload_n 0, 1) := by decide +kernel
theorem dX8_refer_6 : decode cX8_refer 6 = .ok (.iload_n 1, 1) := by decide +kernel
theorem dX8_refer_7 : decode cX8_refer 7 = .ok (.invokevirtual 168, 3) := by decide +kernel
theorem dX8_refer_10 : decode cX8_refer 10 = .ok (.ifCond .eq 16, 3) := by decide +kernel
theorem dX8_refer_13 : decode cX8_refer 13 = .ok (.iload_n 2, 1) := by decide +kernel
theorem dX8_refer_14 : decode cX8_refer 14 = .ok (.iconst (-1), 1) := by decide +kernel
theorem dX8_refer_15 : decode cX8_refer 15 = .ok (.if_icmp .eq 13, 3) := by decide +kernel
theorem dX8_refer_18 : decode cX8_refer 18 = .ok (.aload_n 0, 1) := by decide +kernel
theorem dX8_refer_19 : decode cX8_refer 19 = .ok (.iload_n 2, 1) := by decide +kernel
theorem dX8_refer_20 : decode cX8_refer 20 = .ok (.invokevirtual 168, 3) := by decide +kernel
theorem dX8_refer_23 : decode cX8_refer 23 = .ok (.ifCond .ne 5, 3) := by decide +kernel
theorem dX8_refer_26 : decode cX8_refer 26 = .ok (.iconst (-1), 1) := by decide +kernel
theorem dX8_refer_27 : decode cX8_refer 27 = .ok (.ireturn, 1) := by decide +kernel
theorem dX8_refer_28 : decode cX8_refer 28 = .ok (.aload_n 0, 1) := by decide +kernel
theorem dX8_refer_29 : decode cX8_refer 29 = .ok (.invokevirtual 162, 3) := by decide +kernel
theorem dX8_refer_32 : decode cX8_refer 32 = .ok (.aload_n 0, 1) := by decide +kernel
theorem dX8_refer_33 : decode cX8_refer 33 = .ok (.getfield 24, 3) := by decide +kernel
theorem dX8_refer_36 : decode cX8_refer 36 = .ok (.iload_n 1, 1) := by decide +kernel
theorem dX8_refer_37 : decode cX8_refer 37 = .ok (.iload_n 2, 1) := by decide +kernel
theorem dX8_refer_38 : decode cX8_refer 38 = .ok (.iastore, 1) := by decide +kernel
theorem dX8_refer_39 : decode cX8_refer 39 = .ok (.aload_n 0, 1) := by decide +kernel
theorem dX8_refer_40 : decode cX8_refer 40 = .ok (.invokevirtual 165, 3) := by decide +kernel
theorem dX8_refer_43 : decode cX8_refer 43 = .ok (.ireturn, 1) := by decide +kernel
theorem dX8_row_0 : decode cX8_row 0 = .ok (.aload_n 0, 1) := by decide +kernel
theorem dX8_row_1 : decode cX8_row 1 = .ok (.iconst 0, 1) := by decide +kernel
theorem dX8_row_2 : decode cX8_row 2 = .ok (.putfield 90, 3) := by decide +kernel
theorem dX8_row_5 : decode cX8_row 5 = .ok (.aload_n 0, 1) := by decide +kernel
theorem dX8_row_6 : decode cX8_row 6 = .ok (.iload_n 1, 1) := by decide +kernel
theorem dX8_row_7 : decode cX8_row 7 = .ok (.invokevirtual 168, 3) := by decide +kernel
theorem dX8_row_10 : decode cX8_row 10 = .ok (.ifCond .eq 13, 3) := by decide +kernel
theorem dX8_row_13 : decode cX8_row 13 = .ok (.iload_n 2, 1) := by decide +kernel
theorem dX8_row_14 : decode cX8_row 14 = .ok (.iconst 0, 1) := by decide +kernel
theorem dX8_row_15 : decode cX8_row 15 = .ok (.bipush 8, 2) := by decide +kernel
theorem dX8_row_17 : decode cX8_row 17 = .ok (.invokestatic 97, 3) := by decide +kernel
theorem dX8_row_20 : decode cX8_row 20 = .ok (.ifCond .ne 5, 3) := by decide +kernel
theorem dX8_row_23 : decode cX8_row 23 = .ok (.iconst (-1), 1) := by decide +kernel
theorem dX8_row_24 : decode cX8_row 24 = .ok (.ireturn, 1) := by decide +kernel
theorem dX8_row_25 : decode cX8_row 25 = .ok (.aload_n 0, 1) := by decide +kernel
theorem dX8_row_26 : decode cX8_row 26 = .ok (.invokevirtual 162, 3) := by decide +kernel
theorem dX8_row_29 : decode cX8_row 29 = .ok (.iload_n 2, 1) := by decide +kernel
theorem dX8_row_30 : decode cX8_row 30 = .ok (.istore_n 3, 1) := by decide +kernel
theorem dX8_row_31 : decode cX8_row 31 = .ok (.iload_n 3, 1) := by decide +kernel
theorem dX8_row_32 : decode cX8_row 32 = .ok (.bipush 8, 2) := by decide +kernel
theorem dX8_row_34 : decode cX8_row 34 = .ok (.if_icmp .ge 21, 3) := by decide +kernel
theorem dX8_row_37 : decode cX8_row 37 = .ok (.aload_n 0, 1) := by decide +kernel
theorem dX8_row_38 : decode cX8_row 38 = .ok (.getfield 30, 3) := by decide +kernel
theorem dX8_row_41 : decode cX8_row 41 = .ok (.bipush 8, 2) := by decide +kernel
theorem dX8_row_43 : decode cX8_row 43 = .ok (.iload_n 1, 1) := by decide +kernel
theorem dX8_row_44 : decode cX8_row 44 = .ok (.imul, 1) := by decide +kernel
theorem dX8_row_45 : decode cX8_row 45 = .ok (.iload_n 3, 1) := by decide +kernel
theorem dX8_row_46 : decode cX8_row 46 = .ok (.iadd, 1) := by decide +kernel
theorem dX8_row_47 : decode cX8_row 47 = .ok (.lconst 0, 1) := by decide +kernel
theorem dX8_row_48 : decode cX8_row 48 = .ok (.lastore, 1) := by decide +kernel
theorem dX8_row_49 : decode cX8_row 49 = .ok (.iinc 3 1, 3) := by decide +kernel
theorem dX8_row_52 : decode cX8_row 52 = .ok (.goto (-21), 3) := by decide +kernel
theorem dX8_row_55 : decode cX8_row 55 = .ok (.aload_n 0, 1) := by decide +kernel
theorem dX8_row_56 : decode cX8_row 56 = .ok (.getfield 27, 3) := by decide +kernel
theorem dX8_row_59 : decode cX8_row 59 = .ok (.iload_n 1, 1) := by decide +kernel
theorem dX8_row_60 : decode cX8_row 60 = .ok (.iload_n 2, 1) := by decide +kernel
theorem dX8_row_61 : decode cX8_row 61 = .ok (.iastore, 1) := by decide +kernel
theorem dX8_row_62 : decode cX8_row 62 = .ok (.aload_n 0, 1) := by decide +kernel
theorem dX8_row_63 : decode cX8_row 63 = .ok (.invokevirtual 165, 3) := by decide +kernel
theorem dX8_row_66 : decode cX8_row 66 = .ok (.ireturn, 1) := by decide +kernel
theorem dX8_item_0 : decode cX8_item 0 = .ok (.aload_n 0, 1) := by decide +kernel
theorem dX8_item_1 : decode cX8_item 1 = .ok (.iconst 0, 1) := by decide +kernel
theorem dX8_item_2 : decode cX8_item 2 = .ok (.putfield 90, 3) := by decide +kernel
theorem dX8_item_5 : decode cX8_item 5 = .ok (.aload_n 0, 1) := by decide +kernel
theorem dX8_item_6 : decode cX8_item 6 = .ok (.iload_n 1, 1) := by decide +kernel
theorem dX8_item_7 : decode cX8_item 7 = .ok (.invokevirtual 168, 3) := by decide +kernel
theorem dX8_item_10 : decode cX8_item 10 = .ok (.ifCond .eq 19, 3) := by decide +kernel
theorem dX8_item_13 : decode cX8_item 13 = .ok (.iload_n 2, 1) := by decide +kernel
theorem dX8_item_14 : decode cX8_item 14 = .ok (.iconst 0, 1) := by decide +kernel
theorem dX8_item_15 : decode cX8_item 15 = .ok (.aload_n 0, 1) := by decide +kernel
theorem dX8_item_16 : decode cX8_item 16 = .ok (.getfield 27, 3) := by decide +kernel
theorem dX8_item_19 : decode cX8_item 19 = .ok (.iload_n 1, 1) := by decide +kernel
theorem dX8_item_20 : decode cX8_item 20 = .ok (.iaload, 1) := by decide +kernel
theorem dX8_item_21 : decode cX8_item 21 = .ok (.iconst 1, 1) := by decide +kernel
theorem dX8_item_22 : decode cX8_item 22 = .ok (.isub, 1) := by decide +kernel
theorem dX8_item_23 : decode cX8_item 23 = .ok (.invokestatic 97, 3) := by decide +kernel
theorem dX8_item_26 : decode cX8_item 26 = .ok (.ifCond .ne 5, 3) := by decide +kernel
theorem dX8_item_29 : decode cX8_item 29 = .ok (.iconst (-1), 1) := by decide +kernel
theorem dX8_item_30 : decode cX8_item 30 = .ok (.ireturn, 1) := by decide +kernel
theorem dX8_item_31 : decode cX8_item 31 = .ok (.aload_n 0, 1) := by decide +kernel
theorem dX8_item_32 : decode cX8_item 32 = .ok (.invokevirtual 162, 3) := by decide +kernel
theorem dX8_item_35 : decode cX8_item 35 = .ok (.aload_n 0, 1) := by decide +kernel
theorem dX8_item_36 : decode cX8_item 36 = .ok (.getfield 30, 3) := by decide +kernel
theorem dX8_item_39 : decode cX8_item 39 = .ok (.bipush 8, 2) := by decide +kernel
theorem dX8_item_41 : decode cX8_item 41 = .ok (.iload_n 1, 1) := by decide +kernel
theorem dX8_item_42 : decode cX8_item 42 = .ok (.imul, 1) := by decide +kernel
theorem dX8_item_43 : decode cX8_item 43 = .ok (.iload_n 2, 1) := by decide +kernel
theorem dX8_item_44 : decode cX8_item 44 = .ok (.iadd, 1) := by decide +kernel
theorem dX8_item_45 : decode cX8_item 45 = .ok (.lload_n 3, 1) := by decide +kernel
theorem dX8_item_46 : decode cX8_item 46 = .ok (.lastore, 1) := by decide +kernel
theorem dX8_item_47 : decode cX8_item 47 = .ok (.aload_n 0, 1) := by decide +kernel
theorem dX8_item_48 : decode cX8_item 48 = .ok (.invokevirtual 165, 3) := by decide +kernel
theorem dX8_item_51 : decode cX8_item 51 = .ok (.ireturn, 1) := by decide +kernel
theorem dX8_drop_0 : decode cX8_drop 0 = .ok (.aload_n 0, 1) := by decide +kernel
theorem dX8_drop_1 : decode cX8_drop 1 = .ok (.iconst 0, 1) := by decide +kernel
theorem dX8_drop_2 : decode cX8_drop 2 = .ok (.putfield 90, 3) := by decide +kernel
theorem dX8_drop_5 : decode cX8_drop 5 = .ok (.aload_n 0, 1) := by decide +kernel
theorem dX8_drop_6 : decode cX8_drop 6 = .ok (.iload_n 1, 1) := by decide +kernel
theorem dX8_drop_7 : decode cX8_drop 7 = .ok (.invokevirtual 168, 3) := by decide +kernel
theorem dX8_drop_10 : decode cX8_drop 10 = .ok (.ifCond .ne 5, 3) := by decide +kernel
theorem dX8_drop_13 : decode cX8_drop 13 = .ok (.iconst (-1), 1) := by decide +kernel
theorem dX8_drop_14 : decode cX8_drop 14 = .ok (.ireturn, 1) := by decide +kernel
theorem dX8_drop_15 : decode cX8_drop 15 = .ok (.aload_n 0, 1) := by decide +kernel
theorem dX8_drop_16 : decode cX8_drop 16 = .ok (.invokevirtual 162, 3) := by decide +kernel
theorem dX8_drop_19 : decode cX8_drop 19 = .ok (.aload_n 0, 1) := by decide +kernel
theorem dX8_drop_20 : decode cX8_drop 20 = .ok (.getfield 13, 3) := by decide +kernel
theorem dX8_drop_23 : decode cX8_drop 23 = .ok (.iload_n 1, 1) := by decide +kernel
theorem dX8_drop_24 : decode cX8_drop 24 = .ok (.iconst 0, 1) := by decide +kernel
theorem dX8_drop_25 : decode cX8_drop 25 = .ok (.bastore, 1) := by decide +kernel
theorem dX8_drop_26 : decode cX8_drop 26 = .ok (.aload_n 0, 1) := by decide +kernel
theorem dX8_drop_27 : decode cX8_drop 27 = .ok (.invokevirtual 165, 3) := by decide +kernel
theorem dX8_drop_30 : decode cX8_drop 30 = .ok (.ireturn, 1) := by decide +kernel
theorem dX8_type_0 : decode cX8_type 0 = .ok (.aload_n 0, 1) := by decide +kernel
theorem dX8_type_1 : decode cX8_type 1 = .ok (.iconst 0, 1) := by decide +kernel
theorem dX8_type_2 : decode cX8_type 2 = .ok (.putfield 90, 3) := by decide +kernel
theorem dX8_type_5 : decode cX8_type 5 = .ok (.iload_n 3, 1) := by decide +kernel
theorem dX8_type_6 : decode cX8_type 6 = .ok (.iconst 1, 1) := by decide +kernel
theorem dX8_type_7 : decode cX8_type 7 = .ok (.if_icmp .lt 20, 3) := by decide +kernel
theorem dX8_type_10 : decode cX8_type 10 = .ok (.iload_n 3, 1) := by decide +kernel
theorem dX8_type_11 : decode cX8_type 11 = .ok (.bipush 8, 2) := by decide +kernel
theorem dX8_type_13 : decode cX8_type 13 = .ok (.if_icmp .gt 14, 3) := by decide +kernel
theorem dX8_type_16 : decode cX8_type 16 = .ok (.aload_n 0, 1) := by decide +kernel
theorem dX8_type_17 : decode cX8_type 17 = .ok (.getfield 172, 3) := by decide +kernel
theorem dX8_type_20 : decode cX8_type 20 = .ok (.iload_n 3, 1) := by decide +kernel
theorem dX8_type_21 : decode cX8_type 21 = .ok (.iadd, 1) := by decide +kernel
theorem dX8_type_22 : decode cX8_type 22 = .ok (.bipush 80, 2) := by decide +kernel
theorem dX8_type_24 : decode cX8_type 24 = .ok (.if_icmp .le 5, 3) := by decide +kernel
theorem dX8_type_27 : decode cX8_type 27 = .ok (.iconst 0, 1) := by decide +kernel
theorem dX8_type_28 : decode cX8_type 28 = .ok (.ireturn, 1) := by decide +kernel
theorem dX8_type_29 : decode cX8_type 29 = .ok (.iconst 0, 1) := by decide +kernel
theorem dX8_type_30 : decode cX8_type 30 = .ok (.istore 4, 2) := by decide +kernel
theorem dX8_type_32 : decode cX8_type 32 = .ok (.iload 4, 2) := by decide +kernel
theorem dX8_type_34 : decode cX8_type 34 = .ok (.iload_n 3, 1) := by decide +kernel
theorem dX8_type_35 : decode cX8_type 35 = .ok (.if_icmp .ge 39, 3) := by decide +kernel
theorem dX8_type_38 : decode cX8_type 38 = .ok (.lload_n 1, 1) := by decide +kernel
theorem dX8_type_39 : decode cX8_type 39 = .ok (.bipush 8, 2) := by decide +kernel
theorem dX8_type_41 : decode cX8_type 41 = .ok (.iload 4, 2) := by decide +kernel
theorem dX8_type_43 : decode cX8_type 43 = .ok (.imul, 1) := by decide +kernel
theorem dX8_type_44 : decode cX8_type 44 = .ok (.lshr, 1) := by decide +kernel
theorem dX8_type_45 : decode cX8_type 45 = .ok (.ldc2_w 175, 3) := by decide +kernel
theorem dX8_type_48 : decode cX8_type 48 = .ok (.land, 1) := by decide +kernel
theorem dX8_type_49 : decode cX8_type 49 = .ok (.l2i, 1) := by decide +kernel
theorem dX8_type_50 : decode cX8_type 50 = .ok (.istore 5, 2) := by decide +kernel
theorem dX8_type_52 : decode cX8_type 52 = .ok (.iload 5, 2) := by decide +kernel
theorem dX8_type_54 : decode cX8_type 54 = .ok (.bipush 33, 2) := by decide +kernel
theorem dX8_type_56 : decode cX8_type 56 = .ok (.if_icmp .lt 10, 3) := by decide +kernel
theorem dX8_type_59 : decode cX8_type 59 = .ok (.iload 5, 2) := by decide +kernel
theorem dX8_type_61 : decode cX8_type 61 = .ok (.bipush 126, 2) := by decide +kernel
theorem dX8_type_63 : decode cX8_type 63 = .ok (.if_icmp .le 5, 3) := by decide +kernel
theorem dX8_type_66 : decode cX8_type 66 = .ok (.iconst 0, 1) := by decide +kernel
theorem dX8_type_67 : decode cX8_type 67 = .ok (.ireturn, 1) := by decide +kernel
theorem dX8_type_68 : decode cX8_type 68 = .ok (.iinc 4 1, 3) := by decide +kernel
theorem dX8_type_71 : decode cX8_type 71 = .ok (.goto (-39), 3) := by decide +kernel
theorem dX8_type_74 : decode cX8_type 74 = .ok (.iload_n 3, 1) := by decide +kernel
theorem dX8_type_75 : decode cX8_type 75 = .ok (.iconst 1, 1) := by decide +kernel
theorem dX8_type_76 : decode cX8_type 76 = .ok (.isub, 1) := by decide +kernel
theorem dX8_type_77 : decode cX8_type 77 = .ok (.istore 4, 2) := by decide +kernel
theorem dX8_type_79 : decode cX8_type 79 = .ok (.iload 4, 2) := by decide +kernel
theorem dX8_type_81 : decode cX8_type 81 = .ok (.ifCond .lt 40, 3) := by decide +kernel
theorem dX8_type_84 : decode cX8_type 84 = .ok (.aload_n 0, 1) := by decide +kernel
theorem dX8_type_85 : decode cX8_type 85 = .ok (.getfield 7, 3) := by decide +kernel
theorem dX8_type_88 : decode cX8_type 88 = .ok (.aload_n 0, 1) := by decide +kernel
theorem dX8_type_89 : decode cX8_type 89 = .ok (.getfield 172, 3) := by decide +kernel
theorem dX8_type_92 : decode cX8_type 92 = .ok (.lload_n 1, 1) := by decide +kernel
theorem dX8_type_93 : decode cX8_type 93 = .ok (.bipush 8, 2) := by decide +kernel
theorem dX8_type_95 : decode cX8_type 95 = .ok (.iload 4, 2) := by decide +kernel
theorem dX8_type_97 : decode cX8_type 97 = .ok (.imul, 1) := by decide +kernel
theorem dX8_type_98 : decode cX8_type 98 = .ok (.lshr, 1) := by decide +kernel
theorem dX8_type_99 : decode cX8_type 99 = .ok (.ldc2_w 175, 3) := by decide +kernel
theorem dX8_type_102 : decode cX8_type 102 = .ok (.land, 1) := by decide +kernel
theorem dX8_type_103 : decode cX8_type 103 = .ok (.l2i, 1) := by decide +kernel
theorem dX8_type_104 : decode cX8_type 104 = .ok (.iastore, 1) := by decide +kernel
theorem dX8_type_105 : decode cX8_type 105 = .ok (.aload_n 0, 1) := by decide +kernel
theorem dX8_type_106 : decode cX8_type 106 = .ok (.dup, 1) := by decide +kernel
theorem dX8_type_107 : decode cX8_type 107 = .ok (.getfield 172, 3) := by decide +kernel
theorem dX8_type_110 : decode cX8_type 110 = .ok (.iconst 1, 1) := by decide +kernel
theorem dX8_type_111 : decode cX8_type 111 = .ok (.iadd, 1) := by decide +kernel
theorem dX8_type_112 : decode cX8_type 112 = .ok (.putfield 172, 3) := by decide +kernel
theorem dX8_type_115 : decode cX8_type 115 = .ok (.iinc 4 (-1), 3) := by decide +kernel
theorem dX8_type_118 : decode cX8_type 118 = .ok (.goto (-39), 3) := by decide +kernel
theorem dX8_type_121 : decode cX8_type 121 = .ok (.iconst 1, 1) := by decide +kernel
theorem dX8_type_122 : decode cX8_type 122 = .ok (.ireturn, 1) := by decide +kernel
theorem dX8_see_0 : decode cX8_see 0 = .ok (.aload_n 0, 1) := by decide +kernel
theorem dX8_see_1 : decode cX8_see 1 = .ok (.getfield 177, 3) := by decide +kernel
theorem dX8_see_4 : decode cX8_see 4 = .ok (.aload_n 0, 1) := by decide +kernel
theorem dX8_see_5 : decode cX8_see 5 = .ok (.getfield 172, 3) := by decide +kernel
theorem dX8_see_8 : decode cX8_see 8 = .ok (.if_icmp .ge 15, 3) := by decide +kernel
theorem dX8_see_11 : decode cX8_see 11 = .ok (.aload_n 0, 1) := by decide +kernel
theorem dX8_see_12 : decode cX8_see 12 = .ok (.getfield 7, 3) := by decide +kernel
theorem dX8_see_15 : decode cX8_see 15 = .ok (.aload_n 0, 1) := by decide +kernel
theorem dX8_see_16 : decode cX8_see 16 = .ok (.getfield 177, 3) := by decide +kernel
theorem dX8_see_19 : decode cX8_see 19 = .ok (.iaload, 1) := by decide +kernel
theorem dX8_see_20 : decode cX8_see 20 = .ok (.goto 4, 3) := by decide +kernel
theorem dX8_see_23 : decode cX8_see 23 = .ok (.iconst 0, 1) := by decide +kernel
theorem dX8_see_24 : decode cX8_see 24 = .ok (.ireturn, 1) := by decide +kernel
theorem dX8_want_0 : decode cX8_want 0 = .ok (.aload_n 0, 1) := by decide +kernel
theorem dX8_want_1 : decode cX8_want 1 = .ok (.invokevirtual 180, 3) := by decide +kernel
theorem dX8_want_4 : decode cX8_want 4 = .ok (.iload_n 1, 1) := by decide +kernel
theorem dX8_want_5 : decode cX8_want 5 = .ok (.if_icmp .eq 5, 3) := by decide +kernel
theorem dX8_want_8 : decode cX8_want 8 = .ok (.iconst 0, 1) := by decide +kernel
theorem dX8_want_9 : decode cX8_want 9 = .ok (.ireturn, 1) := by decide +kernel
theorem dX8_want_10 : decode cX8_want 10 = .ok (.aload_n 0, 1) := by decide +kernel
theorem dX8_want_11 : decode cX8_want 11 = .ok (.dup, 1) := by decide +kernel
theorem dX8_want_12 : decode cX8_want 12 = .ok (.getfield 177, 3) := by decide +kernel
theorem dX8_want_15 : decode cX8_want 15 = .ok (.iconst 1, 1) := by decide +kernel
theorem dX8_want_16 : decode cX8_want 16 = .ok (.iadd, 1) := by decide +kernel
theorem dX8_want_17 : decode cX8_want 17 = .ok (.putfield 177, 3) := by decide +kernel
theorem dX8_want_20 : decode cX8_want 20 = .ok (.iconst 1, 1) := by decide +kernel
theorem dX8_want_21 : decode cX8_want 21 = .ok (.ireturn, 1) := by decide +kernel
theorem dX8_lay_0 : decode cX8_lay 0 = .ok (.aload_n 0, 1) := by decide +kernel
theorem dX8_lay_1 : decode cX8_lay 1 = .ok (.getfield 42, 3) := by decide +kernel
theorem dX8_lay_4 : decode cX8_lay 4 = .ok (.sipush 240, 3) := by decide +kernel
theorem dX8_lay_7 : decode cX8_lay 7 = .ok (.aload_n 0, 1) := by decide +kernel
theorem dX8_lay_8 : decode cX8_lay 8 = .ok (.getfield 148, 3) := by decide +kernel
theorem dX8_lay_11 : decode cX8_lay 11 = .ok (.imul, 1) := by decide +kernel
theorem dX8_lay_12 : decode cX8_lay 12 = .ok (.aload_n 0, 1) := by decide +kernel
theorem dX8_lay_13 : decode cX8_lay 13 = .ok (.getfield 183, 3) := by decide +kernel
theorem dX8_lay_16 : decode cX8_lay 16 = .ok (.iadd, 1) := by decide +kernel
theorem dX8_lay_17 : decode cX8_lay 17 = .ok (.iload_n 1, 1) := by decide +kernel
theorem dX8_lay_18 : decode cX8_lay 18 = .ok (.iastore, 1) := by decide +kernel
theorem dX8_lay_19 : decode cX8_lay 19 = .ok (.aload_n 0, 1) := by decide +kernel
theorem dX8_lay_20 : decode cX8_lay 20 = .ok (.getfield 45, 3) := by decide +kernel
theorem dX8_lay_23 : decode cX8_lay 23 = .ok (.sipush 240, 3) := by decide +kernel
theorem dX8_lay_26 : decode cX8_lay 26 = .ok (.aload_n 0, 1) := by decide +kernel
theorem dX8_lay_27 : decode cX8_lay 27 = .ok (.getfield 148, 3) := by decide +kernel
theorem dX8_lay_30 : decode cX8_lay 30 = .ok (.imul, 1) := by decide +kernel
theorem dX8_lay_31 : decode cX8_lay 31 = .ok (.aload_n 0, 1) := by decide +kernel
theorem dX8_lay_32 : decode cX8_lay 32 = .ok (.getfield 183, 3) := by decide +kernel
theorem dX8_lay_35 : decode cX8_lay 35 = .ok (.iadd, 1) := by decide +kernel
theorem dX8_lay_36 : decode cX8_lay 36 = .ok (.iload_n 2, 1) := by decide +kernel
theorem dX8_lay_37 : decode cX8_lay 37 = .ok (.iastore, 1) := by decide +kernel
theorem dX8_lay_38 : decode cX8_lay 38 = .ok (.aload_n 0, 1) := by decide +kernel
theorem dX8_lay_39 : decode cX8_lay 39 = .ok (.dup, 1) := by decide +kernel
theorem dX8_lay_40 : decode cX8_lay 40 = .ok (.getfield 183, 3) := by decide +kernel
theorem dX8_lay_43 : decode cX8_lay 43 = .ok (.iconst 1, 1) := by decide +kernel
theorem dX8_lay_44 : decode cX8_lay 44 = .ok (.iadd, 1) := by decide +kernel
theorem dX8_lay_45 : decode cX8_lay 45 = .ok (.putfield 183, 3) := by decide +kernel
theorem dX8_lay_48 : decode cX8_lay 48 = .ok (.return_, 1) := by decide +kernel
theorem dX8_open_0 : decode cX8_open 0 = .ok (.aload_n 0, 1) := by decide +kernel
theorem dX8_open_1 : decode cX8_open 1 = .ok (.getfield 186, 3) := by decide +kernel
theorem dX8_open_4 : decode cX8_open 4 = .ok (.bipush 12, 2) := by decide +kernel
theorem dX8_open_6 : decode cX8_open 6 = .ok (.if_icmp .ne 5, 3) := by decide +kernel
theorem dX8_open_9 : decode cX8_open 9 = .ok (.iconst 0, 1) := by decide +kernel
theorem dX8_open_10 : decode cX8_open 10 = .ok (.ireturn, 1) := by decide +kernel
theorem dX8_open_11 : decode cX8_open 11 = .ok (.aload_n 0, 1) := by decide +kernel
theorem dX8_open_12 : decode cX8_open 12 = .ok (.dup, 1) := by decide +kernel
theorem dX8_open_13 : decode cX8_open 13 = .ok (.getfield 186, 3) := by decide +kernel
theorem dX8_open_16 : decode cX8_open 16 = .ok (.iconst 1, 1) := by decide +kernel
theorem dX8_open_17 : decode cX8_open 17 = .ok (.iadd, 1) := by decide +kernel
theorem dX8_open_18 : decode cX8_open 18 = .ok (.putfield 186, 3) := by decide +kernel
theorem dX8_open_21 : decode cX8_open 21 = .ok (.aload_n 0, 1) := by decide +kernel
theorem dX8_open_22 : decode cX8_open 22 = .ok (.dup, 1) := by decide +kernel
theorem dX8_open_23 : decode cX8_open 23 = .ok (.getfield 177, 3) := by decide +kernel
theorem dX8_open_26 : decode cX8_open 26 = .ok (.iconst 1, 1) := by decide +kernel
theorem dX8_open_27 : decode cX8_open 27 = .ok (.iadd, 1) := by decide +kernel
theorem dX8_open_28 : decode cX8_open 28 = .ok (.putfield 177, 3) := by decide +kernel
theorem dX8_open_31 : decode cX8_open 31 = .ok (.iconst 1, 1) := by decide +kernel
theorem dX8_open_32 : decode cX8_open 32 = .ok (.ireturn, 1) := by decide +kernel
theorem dX8_close_0 : decode cX8_close 0 = .ok (.aload_n 0, 1) := by decide +kernel
theorem dX8_close_1 : decode cX8_close 1 = .ok (.iload_n 1, 1) := by decide +kernel
theorem dX8_close_2 : decode cX8_close 2 = .ok (.invokevirtual 189, 3) := by decide +kernel
theorem dX8_close_5 : decode cX8_close 5 = .ok (.ifCond .ne 5, 3) := by decide +kernel
theorem dX8_close_8 : decode cX8_close 8 = .ok (.iconst 0, 1) := by decide +kernel
theorem dX8_close_9 : decode cX8_close 9 = .ok (.ireturn, 1) := by decide +kernel
theorem dX8_close_10 : decode cX8_close 10 = .ok (.aload_n 0, 1) := by decide +kernel
theorem dX8_close_11 : decode cX8_close 11 = .ok (.dup, 1) := by decide +kernel
theorem dX8_close_12 : decode cX8_close 12 = .ok (.getfield 186, 3) := by decide +kernel
theorem dX8_close_15 : decode cX8_close 15 = .ok (.iconst 1, 1) := by decide +kernel
theorem dX8_close_16 : decode cX8_close 16 = .ok (.isub, 1) := by decide +kernel
theorem dX8_close_17 : decode cX8_close 17 = .ok (.putfield 186, 3) := by decide +kernel
theorem dX8_close_20 : decode cX8_close 20 = .ok (.iconst 1, 1) := by decide +kernel
theorem dX8_close_21 : decode cX8_close 21 = .ok (.ireturn, 1) := by decide +kernel
theorem dX8_isDigit_0 : decode cX8_isDigit 0 = .ok (.aload_n 0, 1) := by decide +kernel
theorem dX8_isDigit_1 : decode cX8_isDigit 1 = .ok (.invokevirtual 180, 3) := by decide +kernel
theorem dX8_isDigit_4 : decode cX8_isDigit 4 = .ok (.bipush 48, 2) := by decide +kernel
theorem dX8_isDigit_6 : decode cX8_isDigit 6 = .ok (.if_icmp .lt 16, 3) := by decide +kernel
theorem dX8_isDigit_9 : decode cX8_isDigit 9 = .ok (.aload_n 0, 1) := by decide +kernel
theorem dX8_isDigit_10 : decode cX8_isDigit 10 = .ok (.invokevirtual 180, 3) := by decide +kernel
theorem dX8_isDigit_13 : decode cX8_isDigit 13 = .ok (.bipush 57, 2) := by decide +kernel
theorem dX8_isDigit_15 : decode cX8_isDigit 15 = .ok (.if_icmp .gt 7, 3) := by decide +kernel
theorem dX8_isDigit_18 : decode cX8_isDigit 18 = .ok (.iconst 1, 1) := by decide +kernel
theorem dX8_isDigit_19 : decode cX8_isDigit 19 = .ok (.goto 4, 3) := by decide +kernel
theorem dX8_isDigit_22 : decode cX8_isDigit 22 = .ok (.iconst 0, 1) := by decide +kernel
theorem dX8_isDigit_23 : decode cX8_isDigit 23 = .ok (.ireturn, 1) := by decide +kernel
theorem dX8_readNumber_0 : decode cX8_readNumber 0 = .ok (.iconst 0, 1) := by decide +kernel
theorem dX8_readNumber_1 : decode cX8_readNumber 1 = .ok (.istore_n 1, 1) := by decide +kernel
theorem dX8_readNumber_2 : decode cX8_readNumber 2 = .ok (.iconst 0, 1) := by decide +kernel
theorem dX8_readNumber_3 : decode cX8_readNumber 3 = .ok (.istore_n 2, 1) := by decide +kernel
theorem dX8_readNumber_4 : decode cX8_readNumber 4 = .ok (.aload_n 0, 1) := by decide +kernel
theorem dX8_readNumber_5 : decode cX8_readNumber 5 = .ok (.invokevirtual 192, 3) := by decide +kernel
theorem dX8_readNumber_8 : decode cX8_readNumber 8 = .ok (.ifCond .eq 38, 3) := by decide +kernel
theorem dX8_readNumber_11 : decode cX8_readNumber 11 = .ok (.iload_n 1, 1) := by decide +kernel
theorem dX8_readNumber_12 : decode cX8_readNumber 12 = .ok (.bipush 9, 2) := by decide +kernel
theorem dX8_readNumber_14 : decode cX8_readNumber 14 = .ok (.if_icmp .ge 32, 3) := by decide +kernel
theorem dX8_readNumber_17 : decode cX8_readNumber 17 = .ok (.bipush 10, 2) := by decide +kernel
theorem dX8_readNumber_19 : decode cX8_readNumber 19 = .ok (.iload_n 2, 1) := by decide +kernel
theorem dX8_readNumber_20 : decode cX8_readNumber 20 = .ok (.imul, 1) := by decide +kernel
theorem dX8_readNumber_21 : decode cX8_readNumber 21 = .ok (.aload_n 0, 1) := by decide +kernel
theorem dX8_readNumber_22 : decode cX8_readNumber 22 = .ok (.invokevirtual 180, 3) := by decide +kernel
theorem dX8_readNumber_25 : decode cX8_readNumber 25 = .ok (.iadd, 1) := by decide +kernel
theorem dX8_readNumber_26 : decode cX8_readNumber 26 = .ok (.bipush 48, 2) := by decide +kernel
theorem dX8_readNumber_28 : decode cX8_readNumber 28 = .ok (.isub, 1) := by decide +kernel
theorem dX8_readNumber_29 : decode cX8_readNumber 29 = .ok (.istore_n 2, 1) := by decide +kernel
theorem dX8_readNumber_30 : decode cX8_readNumber 30 = .ok (.aload_n 0, 1) := by decide +kernel
theorem dX8_readNumber_31 : decode cX8_readNumber 31 = .ok (.dup, 1) := by decide +kernel
theorem dX8_readNumber_32 : decode cX8_readNumber 32 = .ok (.getfield 177, 3) := by decide +kernel
theorem dX8_readNumber_35 : decode cX8_readNumber 35 = .ok (.iconst 1, 1) := by decide +kernel
theorem dX8_readNumber_36 : decode cX8_readNumber 36 = .ok (.iadd, 1) := by decide +kernel
theorem dX8_readNumber_37 : decode cX8_readNumber 37 = .ok (.putfield 177, 3) := by decide +kernel
theorem dX8_readNumber_40 : decode cX8_readNumber 40 = .ok (.iinc 1 1, 3) := by decide +kernel
theorem dX8_readNumber_43 : decode cX8_readNumber 43 = .ok (.goto (-39), 3) := by decide +kernel
theorem dX8_readNumber_46 : decode cX8_readNumber 46 = .ok (.aload_n 0, 1) := by decide +kernel
theorem dX8_readNumber_47 : decode cX8_readNumber 47 = .ok (.iconst 0, 1) := by decide +kernel
theorem dX8_readNumber_48 : decode cX8_readNumber 48 = .ok (.iload_n 2, 1) := by decide +kernel
theorem dX8_readNumber_49 : decode cX8_readNumber 49 = .ok (.invokevirtual 196, 3) := by decide +kernel
theorem dX8_readNumber_52 : decode cX8_readNumber 52 = .ok (.aload_n 0, 1) := by decide +kernel
theorem dX8_readNumber_53 : decode cX8_readNumber 53 = .ok (.invokevirtual 192, 3) := by decide +kernel
theorem dX8_readNumber_56 : decode cX8_readNumber 56 = .ok (.ifCond .ne 7, 3) := by decide +kernel
theorem dX8_readNumber_59 : decode cX8_readNumber 59 = .ok (.iconst 1, 1) := by decide +kernel
theorem dX8_readNumber_60 : decode cX8_readNumber 60 = .ok (.goto 4, 3) := by decide +kernel
theorem dX8_readNumber_63 : decode cX8_readNumber 63 = .ok (.iconst 0, 1) := by decide +kernel
theorem dX8_readNumber_64 : decode cX8_readNumber 64 = .ok (.ireturn, 1) := by decide +kernel
theorem dX8_readPath_0 : decode cX8_readPath 0 = .ok (.aload_n 0, 1) := by decide +kernel
theorem dX8_readPath_1 : decode cX8_readPath 1 = .ok (.iconst 1, 1) := by decide +kernel
theorem dX8_readPath_2 : decode cX8_readPath 2 = .ok (.iconst 0, 1) := by decide +kernel
theorem dX8_readPath_3 : decode cX8_readPath 3 = .ok (.invokevirtual 196, 3) := by decide +kernel
theorem dX8_readPath_6 : decode cX8_readPath 6 = .ok (.aload_n 0, 1) := by decide +kernel
theorem dX8_readPath_7 : decode cX8_readPath 7 = .ok (.invokevirtual 180, 3) := by decide +kernel
theorem dX8_readPath_10 : decode cX8_readPath 10 = .ok (.bipush 114, 2) := by decide +kernel
theorem dX8_readPath_12 : decode cX8_readPath 12 = .ok (.if_icmp .ne 33, 3) := by decide +kernel
theorem dX8_readPath_15 : decode cX8_readPath 15 = .ok (.aload_n 0, 1) := by decide +kernel
theorem dX8_readPath_16 : decode cX8_readPath 16 = .ok (.dup, 1) := by decide +kernel
theorem dX8_readPath_17 : decode cX8_readPath 17 = .ok (.getfield 177, 3) := by decide +kernel
theorem dX8_readPath_20 : decode cX8_readPath 20 = .ok (.iconst 1, 1) := by decide +kernel
theorem dX8_readPath_21 : decode cX8_readPath 21 = .ok (.iadd, 1) := by decide +kernel
theorem dX8_readPath_22 : decode cX8_readPath 22 = .ok (.putfield 177, 3) := by decide +kernel
theorem dX8_readPath_25 : decode cX8_readPath 25 = .ok (.aload_n 0, 1) := by decide +kernel
theorem dX8_readPath_26 : decode cX8_readPath 26 = .ok (.bipush 46, 2) := by decide +kernel
theorem dX8_readPath_28 : decode cX8_readPath 28 = .ok (.invokevirtual 189, 3) := by decide +kernel
theorem dX8_readPath_31 : decode cX8_readPath 31 = .ok (.ifCond .ne 5, 3) := by decide +kernel
theorem dX8_readPath_34 : decode cX8_readPath 34 = .ok (.iconst 0, 1) := by decide +kernel
theorem dX8_readPath_35 : decode cX8_readPath 35 = .ok (.ireturn, 1) := by decide +kernel
theorem dX8_readPath_36 : decode cX8_readPath 36 = .ok (.aload_n 0, 1) := by decide +kernel
theorem dX8_readPath_37 : decode cX8_readPath 37 = .ok (.iconst 2, 1) := by decide +kernel
theorem dX8_readPath_38 : decode cX8_readPath 38 = .ok (.iconst 0, 1) := by decide +kernel
theorem dX8_readPath_39 : decode cX8_readPath 39 = .ok (.invokevirtual 196, 3) := by decide +kernel
theorem dX8_readPath_42 : decode cX8_readPath 42 = .ok (.goto (-36), 3) := by decide +kernel
theorem dX8_readPath_45 : decode cX8_readPath 45 = .ok (.aload_n 0, 1) := by decide +kernel
theorem dX8_readPath_46 : decode cX8_readPath 46 = .ok (.invokevirtual 180, 3) := by decide +kernel
theorem dX8_readPath_49 : decode cX8_readPath 49 = .ok (.istore_n 1, 1) := by decide +kernel
theorem dX8_readPath_50 : decode cX8_readPath 50 = .ok (.iload_n 1, 1) := by decide +kernel
theorem dX8_readPath_51 : decode cX8_readPath 51 = .ok (.bipush 116, 2) := by decide +kernel
theorem dX8_readPath_53 : decode cX8_readPath 53 = .ok (.if_icmp .ne 56, 3) := by decide +kernel
theorem dX8_readPath_56 : decode cX8_readPath 56 = .ok (.aload_n 0, 1) := by decide +kernel
theorem dX8_readPath_57 : decode cX8_readPath 57 = .ok (.dup, 1) := by decide +kernel
theorem dX8_readPath_58 : decode cX8_readPath 58 = .ok (.getfield 177, 3) := by decide +kernel
theorem dX8_readPath_61 : decode cX8_readPath 61 = .ok (.iconst 1, 1) := by decide +kernel
theorem dX8_readPath_62 : decode cX8_readPath 62 = .ok (.iadd, 1) := by decide +kernel
theorem dX8_readPath_63 : decode cX8_readPath 63 = .ok (.putfield 177, 3) := by decide +kernel
theorem dX8_readPath_66 : decode cX8_readPath 66 = .ok (.aload_n 0, 1) := by decide +kernel
theorem dX8_readPath_67 : decode cX8_readPath 67 = .ok (.invokevirtual 180, 3) := by decide +kernel
theorem dX8_readPath_70 : decode cX8_readPath 70 = .ok (.bipush 91, 2) := by decide +kernel
theorem dX8_readPath_72 : decode cX8_readPath 72 = .ok (.if_icmp .ne 26, 3) := by decide +kernel
theorem dX8_readPath_75 : decode cX8_readPath 75 = .ok (.aload_n 0, 1) := by decide +kernel
theorem dX8_readPath_76 : decode cX8_readPath 76 = .ok (.invokevirtual 199, 3) := by decide +kernel
theorem dX8_readPath_79 : decode cX8_readPath 79 = .ok (.ifCond .eq 19, 3) := by decide +kernel
theorem dX8_readPath_82 : decode cX8_readPath 82 = .ok (.aload_n 0, 1) := by decide +kernel
theorem dX8_readPath_83 : decode cX8_readPath 83 = .ok (.invokevirtual 202, 3) := by decide +kernel
theorem dX8_readPath_86 : decode cX8_readPath 86 = .ok (.ifCond .eq 12, 3) := by decide +kernel
theorem dX8_readPath_89 : decode cX8_readPath 89 = .ok (.aload_n 0, 1) := by decide +kernel
theorem dX8_readPath_90 : decode cX8_readPath 90 = .ok (.bipush 93, 2) := by decide +kernel
theorem dX8_readPath_92 : decode cX8_readPath 92 = .ok (.invokevirtual 205, 3) := by decide +kernel
theorem dX8_readPath_95 : decode cX8_readPath 95 = .ok (.ifCond .ne 5, 3) := by decide +kernel
theorem dX8_readPath_98 : decode cX8_readPath 98 = .ok (.iconst 0, 1) := by decide +kernel
theorem dX8_readPath_99 : decode cX8_readPath 99 = .ok (.ireturn, 1) := by decide +kernel
theorem dX8_readPath_100 : decode cX8_readPath 100 = .ok (.aload_n 0, 1) := by decide +kernel
theorem dX8_readPath_101 : decode cX8_readPath 101 = .ok (.bipush 8, 2) := by decide +kernel
theorem dX8_readPath_103 : decode cX8_readPath 103 = .ok (.iconst 0, 1) := by decide +kernel
theorem dX8_readPath_104 : decode cX8_readPath 104 = .ok (.invokevirtual 196, 3) := by decide +kernel
theorem dX8_readPath_107 : decode cX8_readPath 107 = .ok (.iconst 1, 1) := by decide +kernel
theorem dX8_readPath_108 : decode cX8_readPath 108 = .ok (.ireturn, 1) := by decide +kernel
theorem dX8_readPath_109 : decode cX8_readPath 109 = .ok (.iload_n 1, 1) := by decide +kernel
theorem dX8_readPath_110 : decode cX8_readPath 110 = .ok (.bipush 97, 2) := by decide +kernel
theorem dX8_readPath_112 : decode cX8_readPath 112 = .ok (.if_icmp .eq 29, 3) := by decide +kernel
theorem dX8_readPath_115 : decode cX8_readPath 115 = .ok (.iload_n 1, 1) := by decide +kernel
theorem dX8_readPath_116 : decode cX8_readPath 116 = .ok (.bipush 98, 2) := by decide +kernel
theorem dX8_readPath_118 : decode cX8_readPath 118 = .ok (.if_icmp .eq 23, 3) := by decide +kernel
theorem dX8_readPath_121 : decode cX8_readPath 121 = .ok (.iload_n 1, 1) := by decide +kernel
theorem dX8_readPath_122 : decode cX8_readPath 122 = .ok (.bipush 99, 2) := by decide +kernel
theorem dX8_readPath_124 : decode cX8_readPath 124 = .ok (.if_icmp .eq 17, 3) := by decide +kernel
theorem dX8_readPath_127 : decode cX8_readPath 127 = .ok (.iload_n 1, 1) := by decide +kernel
theorem dX8_readPath_128 : decode cX8_readPath 128 = .ok (.bipush 110, 2) := by decide +kernel
theorem dX8_readPath_130 : decode cX8_readPath 130 = .ok (.if_icmp .eq 11, 3) := by decide +kernel
theorem dX8_readPath_133 : decode cX8_readPath 133 = .ok (.iload_n 1, 1) := by decide +kernel
theorem dX8_readPath_134 : decode cX8_readPath 134 = .ok (.bipush 105, 2) := by decide +kernel
theorem dX8_readPath_136 : decode cX8_readPath 136 = .ok (.if_icmp .eq 5, 3) := by decide +kernel
theorem dX8_readPath_139 : decode cX8_readPath 139 = .ok (.iconst 0, 1) := by decide +kernel
theorem dX8_readPath_140 : decode cX8_readPath 140 = .ok (.ireturn, 1) := by decide +kernel
theorem dX8_readPath_141 : decode cX8_readPath 141 = .ok (.aload_n 0, 1) := by decide +kernel
theorem dX8_readPath_142 : decode cX8_readPath 142 = .ok (.dup, 1) := by decide +kernel
theorem dX8_readPath_143 : decode cX8_readPath 143 = .ok (.getfield 177, 3) := by decide +kernel
theorem dX8_readPath_146 : decode cX8_readPath 146 = .ok (.iconst 1, 1) := by decide +kernel
theorem dX8_readPath_147 : decode cX8_readPath 147 = .ok (.iadd, 1) := by decide +kernel
theorem dX8_readPath_148 : decode cX8_readPath 148 = .ok (.putfield 177, 3) := by decide +kernel
theorem dX8_readPath_151 : decode cX8_readPath 151 = .ok (.aload_n 0, 1) := by decide +kernel
theorem dX8_readPath_152 : decode cX8_readPath 152 = .ok (.iload_n 1, 1) := by decide +kernel
theorem dX8_readPath_153 : decode cX8_readPath 153 = .ok (.bipush 110, 2) := by decide +kernel
theorem dX8_readPath_155 : decode cX8_readPath 155 = .ok (.if_icmp .ne 8, 3) := by decide +kernel
theorem dX8_readPath_158 : decode cX8_readPath 158 = .ok (.bipush 6, 2) := by decide +kernel
theorem dX8_readPath_160 : decode cX8_readPath 160 = .ok (.goto 20, 3) := by decide +kernel
theorem dX8_readPath_163 : decode cX8_readPath 163 = .ok (.iload_n 1, 1) := by decide +kernel
theorem dX8_readPath_164 : decode cX8_readPath 164 = .ok (.bipush 105, 2) := by decide +kernel
theorem dX8_readPath_166 : decode cX8_readPath 166 = .ok (.if_icmp .ne 8, 3) := by decide +kernel
theorem dX8_readPath_169 : decode cX8_readPath 169 = .ok (.bipush 7, 2) := by decide +kernel
theorem dX8_readPath_171 : decode cX8_readPath 171 = .ok (.goto 9, 3) := by decide +kernel
theorem dX8_readPath_174 : decode cX8_readPath 174 = .ok (.iconst 3, 1) := by decide +kernel
theorem dX8_readPath_175 : decode cX8_readPath 175 = .ok (.iload_n 1, 1) := by decide +kernel
theorem dX8_readPath_176 : decode cX8_readPath 176 = .ok (.iadd, 1) := by decide +kernel
theorem dX8_readPath_177 : decode cX8_readPath 177 = .ok (.bipush 97, 2) := by decide +kernel
theorem dX8_readPath_179 : decode cX8_readPath 179 = .ok (.isub, 1) := by decide +kernel
theorem dX8_readPath_180 : decode cX8_readPath 180 = .ok (.iconst 0, 1) := by decide +kernel
theorem dX8_readPath_181 : decode cX8_readPath 181 = .ok (.invokevirtual 196, 3) := by decide +kernel
theorem dX8_readPath_184 : decode cX8_readPath 184 = .ok (.iconst 1, 1) := by decide +kernel
theorem dX8_readPath_185 : decode cX8_readPath 185 = .ok (.ireturn, 1) := by decide +kernel
theorem dX8_readFactor_0 : decode cX8_readFactor 0 = .ok (.iconst 0, 1) := by decide +kernel
theorem dX8_readFactor_1 : decode cX8_readFactor 1 = .ok (.istore_n 1, 1) := by decide +kernel
theorem dX8_readFactor_2 : decode cX8_readFactor 2 = .ok (.aload_n 0, 1) := by decide +kernel
theorem dX8_readFactor_3 : decode cX8_readFactor 3 = .ok (.invokevirtual 180, 3) := by decide +kernel
theorem dX8_readFactor_6 : decode cX8_readFactor 6 = .ok (.bipush 45, 2) := by decide +kernel
theorem dX8_readFactor_8 : decode cX8_readFactor 8 = .ok (.if_icmp .ne 18, 3) := by decide +kernel
theorem dX8_readFactor_11 : decode cX8_readFactor 11 = .ok (.aload_n 0, 1) := by decide +kernel
theorem dX8_readFactor_12 : decode cX8_readFactor 12 = .ok (.invokevirtual 199, 3) := by decide +kernel
theorem dX8_readFactor_15 : decode cX8_readFactor 15 = .ok (.ifCond .ne 5, 3) := by decide +kernel
theorem dX8_readFactor_18 : decode cX8_readFactor 18 = .ok (.iconst 0, 1) := by decide +kernel
theorem dX8_readFactor_19 : decode cX8_readFactor 19 = .ok (.ireturn, 1) := by decide +kernel
theorem dX8_readFactor_20 : decode cX8_readFactor 20 = .ok (.iinc 1 1, 3) := by decide +kernel
theorem dX8_readFactor_23 : decode cX8_readFactor 23 = .ok (.goto (-21), 3) := by decide +kernel
theorem dX8_readFactor_26 : decode cX8_readFactor 26 = .ok (.aload_n 0, 1) := by decide +kernel
theorem dX8_readFactor_27 : decode cX8_readFactor 27 = .ok (.invokevirtual 180, 3) := by decide +kernel
theorem dX8_readFactor_30 : decode cX8_readFactor 30 = .ok (.bipush 40, 2) := by decide +kernel
theorem dX8_readFactor_32 : decode cX8_readFactor 32 = .ok (.if_icmp .ne 28, 3) := by decide +kernel
theorem dX8_readFactor_35 : decode cX8_readFactor 35 = .ok (.aload_n 0, 1) := by decide +kernel
theorem dX8_readFactor_36 : decode cX8_readFactor 36 = .ok (.invokevirtual 199, 3) := by decide +kernel
theorem dX8_readFactor_39 : decode cX8_readFactor 39 = .ok (.ifCond .eq 19, 3) := by decide +kernel
theorem dX8_readFactor_42 : decode cX8_readFactor 42 = .ok (.aload_n 0, 1) := by decide +kernel
theorem dX8_readFactor_43 : decode cX8_readFactor 43 = .ok (.invokevirtual 202, 3) := by decide +kernel
theorem dX8_readFactor_46 : decode cX8_readFactor 46 = .ok (.ifCond .eq 12, 3) := by decide +kernel
theorem dX8_readFactor_49 : decode cX8_readFactor 49 = .ok (.aload_n 0, 1) := by decide +kernel
theorem dX8_readFactor_50 : decode cX8_readFactor 50 = .ok (.bipush 41, 2) := by decide +kernel
theorem dX8_readFactor_52 : decode cX8_readFactor 52 = .ok (.invokevirtual 205, 3) := by decide +kernel
theorem dX8_readFactor_55 : decode cX8_readFactor 55 = .ok (.ifCond .ne 30, 3) := by decide +kernel
theorem dX8_readFactor_58 : decode cX8_readFactor 58 = .ok (.iconst 0, 1) := by decide +kernel
theorem dX8_readFactor_59 : decode cX8_readFactor 59 = .ok (.ireturn, 1) := by decide +kernel
theorem dX8_readFactor_60 : decode cX8_readFactor 60 = .ok (.aload_n 0, 1) := by decide +kernel
theorem dX8_readFactor_61 : decode cX8_readFactor 61 = .ok (.invokevirtual 192, 3) := by decide +kernel
theorem dX8_readFactor_64 : decode cX8_readFactor 64 = .ok (.ifCond .eq 12, 3) := by decide +kernel
theorem dX8_readFactor_67 : decode cX8_readFactor 67 = .ok (.aload_n 0, 1) := by decide +kernel
theorem dX8_readFactor_68 : decode cX8_readFactor 68 = .ok (.invokevirtual 208, 3) := by decide +kernel
theorem dX8_readFactor_71 : decode cX8_readFactor 71 = .ok (.ifCond .ne 14, 3) := by decide +kernel
theorem dX8_readFactor_74 : decode cX8_readFactor 74 = .ok (.iconst 0, 1) := by decide +kernel
theorem dX8_readFactor_75 : decode cX8_readFactor 75 = .ok (.ireturn, 1) := by decide +kernel
theorem dX8_readFactor_76 : decode cX8_readFactor 76 = .ok (.aload_n 0, 1) := by decide +kernel
theorem dX8_readFactor_77 : decode cX8_readFactor 77 = .ok (.invokevirtual 211, 3) := by decide +kernel
theorem dX8_readFactor_80 : decode cX8_readFactor 80 = .ok (.ifCond .ne 5, 3) := by decide +kernel
theorem dX8_readFactor_83 : decode cX8_readFactor 83 = .ok (.iconst 0, 1) := by decide +kernel
theorem dX8_readFactor_84 : decode cX8_readFactor 84 = .ok (.ireturn, 1) := by decide +kernel
theorem dX8_readFactor_85 : decode cX8_readFactor 85 = .ok (.iconst 0, 1) := by decide +kernel
theorem dX8_readFactor_86 : decode cX8_readFactor 86 = .ok (.istore_n 2, 1) := by decide +kernel
theorem dX8_readFactor_87 : decode cX8_readFactor 87 = .ok (.iload_n 2, 1) := by decide +kernel
theorem dX8_readFactor_88 : decode cX8_readFactor 88 = .ok (.iload_n 1, 1) := by decide +kernel
theorem dX8_readFactor_89 : decode cX8_readFactor 89 = .ok (.if_icmp .ge 26, 3) := by decide +kernel
theorem dX8_readFactor_92 : decode cX8_readFactor 92 = .ok (.aload_n 0, 1) := by decide +kernel
theorem dX8_readFactor_93 : decode cX8_readFactor 93 = .ok (.bipush 9, 2) := by decide +kernel
theorem dX8_readFactor_95 : decode cX8_readFactor 95 = .ok (.iconst 0, 1) := by decide +kernel
theorem dX8_readFactor_96 : decode cX8_readFactor 96 = .ok (.invokevirtual 196, 3) := by decide +kernel
theorem dX8_readFactor_99 : decode cX8_readFactor 99 = .ok (.aload_n 0, 1) := by decide +kernel
theorem dX8_readFactor_100 : decode cX8_readFactor 100 = .ok (.dup, 1) := by decide +kernel
theorem dX8_readFactor_101 : decode cX8_readFactor 101 = .ok (.getfield 186, 3) := by decide +kernel
theorem dX8_readFactor_104 : decode cX8_readFactor 104 = .ok (.iconst 1, 1) := by decide +kernel
theorem dX8_readFactor_105 : decode cX8_readFactor 105 = .ok (.isub, 1) := by decide +kernel
theorem dX8_readFactor_106 : decode cX8_readFactor 106 = .ok (.putfield 186, 3) := by decide +kernel
theorem dX8_readFactor_109 : decode cX8_readFactor 109 = .ok (.iinc 2 1, 3) := by decide +kernel
theorem dX8_readFactor_112 : decode cX8_readFactor 112 = .ok (.goto (-25), 3) := by decide +kernel
theorem dX8_readFactor_115 : decode cX8_readFactor 115 = .ok (.iconst 1, 1) := by decide +kernel
theorem dX8_readFactor_116 : decode cX8_readFactor 116 = .ok (.ireturn, 1) := by decide +kernel
theorem dX8_readTerm_0 : decode cX8_readTerm 0 = .ok (.aload_n 0, 1) := by decide +kernel
theorem dX8_readTerm_1 : decode cX8_readTerm 1 = .ok (.invokevirtual 214, 3) := by decide +kernel
theorem dX8_readTerm_4 : decode cX8_readTerm 4 = .ok (.ifCond .ne 5, 3) := by decide +kernel
theorem dX8_readTerm_7 : decode cX8_readTerm 7 = .ok (.iconst 0, 1) := by decide +kernel
theorem dX8_readTerm_8 : decode cX8_readTerm 8 = .ok (.ireturn, 1) := by decide +kernel
theorem dX8_readTerm_9 : decode cX8_readTerm 9 = .ok (.aload_n 0, 1) := by decide +kernel
theorem dX8_readTerm_10 : decode cX8_readTerm 10 = .ok (.invokevirtual 180, 3) := by decide +kernel
theorem dX8_readTerm_13 : decode cX8_readTerm 13 = .ok (.bipush 42, 2) := by decide +kernel
theorem dX8_readTerm_15 : decode cX8_readTerm 15 = .ok (.if_icmp .eq 21, 3) := by decide +kernel
theorem dX8_readTerm_18 : decode cX8_readTerm 18 = .ok (.aload_n 0, 1) := by decide +kernel
theorem dX8_readTerm_19 : decode cX8_readTerm 19 = .ok (.invokevirtual 180, 3) := by decide +kernel
theorem dX8_readTerm_22 : decode cX8_readTerm 22 = .ok (.bipush 47, 2) := by decide +kernel
theorem dX8_readTerm_24 : decode cX8_readTerm 24 = .ok (.if_icmp .eq 12, 3) := by decide +kernel
theorem dX8_readTerm_27 : decode cX8_readTerm 27 = .ok (.aload_n 0, 1) := by decide +kernel
theorem dX8_readTerm_28 : decode cX8_readTerm 28 = .ok (.invokevirtual 180, 3) := by decide +kernel
theorem dX8_readTerm_31 : decode cX8_readTerm 31 = .ok (.bipush 37, 2) := by decide +kernel
theorem dX8_readTerm_33 : decode cX8_readTerm 33 = .ok (.if_icmp .ne 62, 3) := by decide +kernel
theorem dX8_readTerm_36 : decode cX8_readTerm 36 = .ok (.aload_n 0, 1) := by decide +kernel
theorem dX8_readTerm_37 : decode cX8_readTerm 37 = .ok (.invokevirtual 180, 3) := by decide +kernel
theorem dX8_readTerm_40 : decode cX8_readTerm 40 = .ok (.bipush 42, 2) := by decide +kernel
theorem dX8_readTerm_42 : decode cX8_readTerm 42 = .ok (.if_icmp .ne 8, 3) := by decide +kernel
theorem dX8_readTerm_45 : decode cX8_readTerm 45 = .ok (.bipush 12, 2) := by decide +kernel
theorem dX8_readTerm_47 : decode cX8_readTerm 47 = .ok (.goto 19, 3) := by decide +kernel
theorem dX8_readTerm_50 : decode cX8_readTerm 50 = .ok (.aload_n 0, 1) := by decide +kernel
theorem dX8_readTerm_51 : decode cX8_readTerm 51 = .ok (.invokevirtual 180, 3) := by decide +kernel
theorem dX8_readTerm_54 : decode cX8_readTerm 54 = .ok (.bipush 47, 2) := by decide +kernel
theorem dX8_readTerm_56 : decode cX8_readTerm 56 = .ok (.if_icmp .ne 8, 3) := by decide +kernel
theorem dX8_readTerm_59 : decode cX8_readTerm 59 = .ok (.bipush 13, 2) := by decide +kernel
theorem dX8_readTerm_61 : decode cX8_readTerm 61 = .ok (.goto 5, 3) := by decide +kernel
theorem dX8_readTerm_64 : decode cX8_readTerm 64 = .ok (.bipush 14, 2) := by decide +kernel
theorem dX8_readTerm_66 : decode cX8_readTerm 66 = .ok (.istore_n 1, 1) := by decide +kernel
theorem dX8_readTerm_67 : decode cX8_readTerm 67 = .ok (.aload_n 0, 1) := by decide +kernel
theorem dX8_readTerm_68 : decode cX8_readTerm 68 = .ok (.dup, 1) := by decide +kernel
theorem dX8_readTerm_69 : decode cX8_readTerm 69 = .ok (.getfield 177, 3) := by decide +kernel
theorem dX8_readTerm_72 : decode cX8_readTerm 72 = .ok (.iconst 1, 1) := by decide +kernel
theorem dX8_readTerm_73 : decode cX8_readTerm 73 = .ok (.iadd, 1) := by decide +kernel
theorem dX8_readTerm_74 : decode cX8_readTerm 74 = .ok (.putfield 177, 3) := by decide +kernel
theorem dX8_readTerm_77 : decode cX8_readTerm 77 = .ok (.aload_n 0, 1) := by decide +kernel
theorem dX8_readTerm_78 : decode cX8_readTerm 78 = .ok (.invokevirtual 214, 3) := by decide +kernel
theorem dX8_readTerm_81 : decode cX8_readTerm 81 = .ok (.ifCond .ne 5, 3) := by decide +kernel
theorem dX8_readTerm_84 : decode cX8_readTerm 84 = .ok (.iconst 0, 1) := by decide +kernel
theorem dX8_readTerm_85 : decode cX8_readTerm 85 = .ok (.ireturn, 1) := by decide +kernel
theorem dX8_readTerm_86 : decode cX8_readTerm 86 = .ok (.aload_n 0, 1) := by decide +kernel
theorem dX8_readTerm_87 : decode cX8_readTerm 87 = .ok (.iload_n 1, 1) := by decide +kernel
theorem dX8_readTerm_88 : decode cX8_readTerm 88 = .ok (.iconst 0, 1) := by decide +kernel
theorem dX8_readTerm_89 : decode cX8_readTerm 89 = .ok (.invokevirtual 196, 3) := by decide +kernel
theorem dX8_readTerm_92 : decode cX8_readTerm 92 = .ok (.goto (-83), 3) := by decide +kernel
theorem dX8_readTerm_95 : decode cX8_readTerm 95 = .ok (.iconst 1, 1) := by decide +kernel
theorem dX8_readTerm_96 : decode cX8_readTerm 96 = .ok (.ireturn, 1) := by decide +kernel
theorem dX8_readX_0 : decode cX8_readX 0 = .ok (.aload_n 0, 1) := by decide +kernel
theorem dX8_readX_1 : decode cX8_readX 1 = .ok (.invokevirtual 217, 3) := by decide +kernel
theorem dX8_readX_4 : decode cX8_readX 4 = .ok (.ifCond .ne 5, 3) := by decide +kernel
theorem dX8_readX_7 : decode cX8_readX 7 = .ok (.iconst 0, 1) := by decide +kernel
theorem dX8_readX_8 : decode cX8_readX 8 = .ok (.ireturn, 1) := by decide +kernel
theorem dX8_readX_9 : decode cX8_readX 9 = .ok (.aload_n 0, 1) := by decide +kernel
theorem dX8_readX_10 : decode cX8_readX 10 = .ok (.invokevirtual 180, 3) := by decide +kernel
theorem dX8_readX_13 : decode cX8_readX 13 = .ok (.bipush 43, 2) := by decide +kernel
theorem dX8_readX_15 : decode cX8_readX 15 = .ok (.if_icmp .eq 12, 3) := by decide +kernel
theorem dX8_readX_18 : decode cX8_readX 18 = .ok (.aload_n 0, 1) := by decide +kernel
theorem dX8_readX_19 : decode cX8_readX 19 = .ok (.invokevirtual 180, 3) := by decide +kernel
theorem dX8_readX_22 : decode cX8_readX 22 = .ok (.bipush 45, 2) := by decide +kernel
theorem dX8_readX_24 : decode cX8_readX 24 = .ok (.if_icmp .ne 48, 3) := by decide +kernel
theorem dX8_readX_27 : decode cX8_readX 27 = .ok (.aload_n 0, 1) := by decide +kernel
theorem dX8_readX_28 : decode cX8_readX 28 = .ok (.invokevirtual 180, 3) := by decide +kernel
theorem dX8_readX_31 : decode cX8_readX 31 = .ok (.bipush 43, 2) := by decide +kernel
theorem dX8_readX_33 : decode cX8_readX 33 = .ok (.if_icmp .ne 8, 3) := by decide +kernel
theorem dX8_readX_36 : decode cX8_readX 36 = .ok (.bipush 10, 2) := by decide +kernel
theorem dX8_readX_38 : decode cX8_readX 38 = .ok (.goto 5, 3) := by decide +kernel
theorem dX8_readX_41 : decode cX8_readX 41 = .ok (.bipush 11, 2) := by decide +kernel
theorem dX8_readX_43 : decode cX8_readX 43 = .ok (.istore_n 1, 1) := by decide +kernel
theorem dX8_readX_44 : decode cX8_readX 44 = .ok (.aload_n 0, 1) := by decide +kernel
theorem dX8_readX_45 : decode cX8_readX 45 = .ok (.dup, 1) := by decide +kernel
theorem dX8_readX_46 : decode cX8_readX 46 = .ok (.getfield 177, 3) := by decide +kernel
theorem dX8_readX_49 : decode cX8_readX 49 = .ok (.iconst 1, 1) := by decide +kernel
theorem dX8_readX_50 : decode cX8_readX 50 = .ok (.iadd, 1) := by decide +kernel
theorem dX8_readX_51 : decode cX8_readX 51 = .ok (.putfield 177, 3) := by decide +kernel
theorem dX8_readX_54 : decode cX8_readX 54 = .ok (.aload_n 0, 1) := by decide +kernel
theorem dX8_readX_55 : decode cX8_readX 55 = .ok (.invokevirtual 217, 3) := by decide +kernel
theorem dX8_readX_58 : decode cX8_readX 58 = .ok (.ifCond .ne 5, 3) := by decide +kernel
theorem dX8_readX_61 : decode cX8_readX 61 = .ok (.iconst 0, 1) := by decide +kernel
theorem dX8_readX_62 : decode cX8_readX 62 = .ok (.ireturn, 1) := by decide +kernel
theorem dX8_readX_63 : decode cX8_readX 63 = .ok (.aload_n 0, 1) := by decide +kernel
theorem dX8_readX_64 : decode cX8_readX 64 = .ok (.iload_n 1, 1) := by decide +kernel
theorem dX8_readX_65 : decode cX8_readX 65 = .ok (.iconst 0, 1) := by decide +kernel
theorem dX8_readX_66 : decode cX8_readX 66 = .ok (.invokevirtual 196, 3) := by decide +kernel
theorem dX8_readX_69 : decode cX8_readX 69 = .ok (.goto (-60), 3) := by decide +kernel
theorem dX8_readX_72 : decode cX8_readX 72 = .ok (.iconst 1, 1) := by decide +kernel
theorem dX8_readX_73 : decode cX8_readX 73 = .ok (.ireturn, 1) := by decide +kernel
theorem dX8_readTest_0 : decode cX8_readTest 0 = .ok (.iconst 0, 1) := by decide +kernel
theorem dX8_readTest_1 : decode cX8_readTest 1 = .ok (.istore_n 1, 1) := by decide +kernel
theorem dX8_readTest_2 : decode cX8_readTest 2 = .ok (.aload_n 0, 1) := by decide +kernel
theorem dX8_readTest_3 : decode cX8_readTest 3 = .ok (.invokevirtual 180, 3) := by decide +kernel
theorem dX8_readTest_6 : decode cX8_readTest 6 = .ok (.bipush 33, 2) := by decide +kernel
theorem dX8_readTest_8 : decode cX8_readTest 8 = .ok (.if_icmp .ne 18, 3) := by decide +kernel
theorem dX8_readTest_11 : decode cX8_readTest 11 = .ok (.aload_n 0, 1) := by decide +kernel
theorem dX8_readTest_12 : decode cX8_readTest 12 = .ok (.invokevirtual 199, 3) := by decide +kernel
theorem dX8_readTest_15 : decode cX8_readTest 15 = .ok (.ifCond .ne 5, 3) := by decide +kernel
theorem dX8_readTest_18 : decode cX8_readTest 18 = .ok (.iconst 0, 1) := by decide +kernel
theorem dX8_readTest_19 : decode cX8_readTest 19 = .ok (.ireturn, 1) := by decide +kernel
theorem dX8_readTest_20 : decode cX8_readTest 20 = .ok (.iinc 1 1, 3) := by decide +kernel
theorem dX8_readTest_23 : decode cX8_readTest 23 = .ok (.goto (-21), 3) := by decide +kernel
theorem dX8_readTest_26 : decode cX8_readTest 26 = .ok (.aload_n 0, 1) := by decide +kernel
theorem dX8_readTest_27 : decode cX8_readTest 27 = .ok (.invokevirtual 180, 3) := by decide +kernel
theorem dX8_readTest_30 : decode cX8_readTest 30 = .ok (.bipush 123, 2) := by decide +kernel
theorem dX8_readTest_32 : decode cX8_readTest 32 = .ok (.if_icmp .ne 28, 3) := by decide +kernel
theorem dX8_readTest_35 : decode cX8_readTest 35 = .ok (.aload_n 0, 1) := by decide +kernel
theorem dX8_readTest_36 : decode cX8_readTest 36 = .ok (.invokevirtual 199, 3) := by decide +kernel
theorem dX8_readTest_39 : decode cX8_readTest 39 = .ok (.ifCond .eq 19, 3) := by decide +kernel
theorem dX8_readTest_42 : decode cX8_readTest 42 = .ok (.aload_n 0, 1) := by decide +kernel
theorem dX8_readTest_43 : decode cX8_readTest 43 = .ok (.invokevirtual 220, 3) := by decide +kernel
theorem dX8_readTest_46 : decode cX8_readTest 46 = .ok (.ifCond .eq 12, 3) := by decide +kernel
theorem dX8_readTest_49 : decode cX8_readTest 49 = .ok (.aload_n 0, 1) := by decide +kernel
theorem dX8_readTest_50 : decode cX8_readTest 50 = .ok (.bipush 125, 2) := by decide +kernel
theorem dX8_readTest_52 : decode cX8_readTest 52 = .ok (.invokevirtual 205, 3) := by decide +kernel
theorem dX8_readTest_55 : decode cX8_readTest 55 = .ok (.ifCond .ne 104, 3) := by decide +kernel
theorem dX8_readTest_58 : decode cX8_readTest 58 = .ok (.iconst 0, 1) := by decide +kernel
theorem dX8_readTest_59 : decode cX8_readTest 59 = .ok (.ireturn, 1) := by decide +kernel
theorem dX8_readTest_60 : decode cX8_readTest 60 = .ok (.aload_n 0, 1) := by decide +kernel
theorem dX8_readTest_61 : decode cX8_readTest 61 = .ok (.invokevirtual 202, 3) := by decide +kernel
theorem dX8_readTest_64 : decode cX8_readTest 64 = .ok (.ifCond .ne 5, 3) := by decide +kernel
theorem dX8_readTest_67 : decode cX8_readTest 67 = .ok (.iconst 0, 1) := by decide +kernel
theorem dX8_readTest_68 : decode cX8_readTest 68 = .ok (.ireturn, 1) := by decide +kernel
theorem dX8_readTest_69 : decode cX8_readTest 69 = .ok (.aload_n 0, 1) := by decide +kernel
theorem dX8_readTest_70 : decode cX8_readTest 70 = .ok (.invokevirtual 180, 3) := by decide +kernel
theorem dX8_readTest_73 : decode cX8_readTest 73 = .ok (.istore_n 2, 1) := by decide +kernel
theorem dX8_readTest_74 : decode cX8_readTest 74 = .ok (.iload_n 2, 1) := by decide +kernel
theorem dX8_readTest_75 : decode cX8_readTest 75 = .ok (.bipush 61, 2) := by decide +kernel
theorem dX8_readTest_77 : decode cX8_readTest 77 = .ok (.if_icmp .eq 23, 3) := by decide +kernel
theorem dX8_readTest_80 : decode cX8_readTest 80 = .ok (.iload_n 2, 1) := by decide +kernel
theorem dX8_readTest_81 : decode cX8_readTest 81 = .ok (.bipush 35, 2) := by decide +kernel
theorem dX8_readTest_83 : decode cX8_readTest 83 = .ok (.if_icmp .eq 17, 3) := by decide +kernel
theorem dX8_readTest_86 : decode cX8_readTest 86 = .ok (.iload_n 2, 1) := by decide +kernel
theorem dX8_readTest_87 : decode cX8_readTest 87 = .ok (.bipush 60, 2) := by decide +kernel
theorem dX8_readTest_89 : decode cX8_readTest 89 = .ok (.if_icmp .eq 11, 3) := by decide +kernel
theorem dX8_readTest_92 : decode cX8_readTest 92 = .ok (.iload_n 2, 1) := by decide +kernel
theorem dX8_readTest_93 : decode cX8_readTest 93 = .ok (.bipush 62, 2) := by decide +kernel
theorem dX8_readTest_95 : decode cX8_readTest 95 = .ok (.if_icmp .eq 5, 3) := by decide +kernel
theorem dX8_readTest_98 : decode cX8_readTest 98 = .ok (.iconst 0, 1) := by decide +kernel
theorem dX8_readTest_99 : decode cX8_readTest 99 = .ok (.ireturn, 1) := by decide +kernel
theorem dX8_readTest_100 : decode cX8_readTest 100 = .ok (.aload_n 0, 1) := by decide +kernel
theorem dX8_readTest_101 : decode cX8_readTest 101 = .ok (.dup, 1) := by decide +kernel
theorem dX8_readTest_102 : decode cX8_readTest 102 = .ok (.getfield 177, 3) := by decide +kernel
theorem dX8_readTest_105 : decode cX8_readTest 105 = .ok (.iconst 1, 1) := by decide +kernel
theorem dX8_readTest_106 : decode cX8_readTest 106 = .ok (.iadd, 1) := by decide +kernel
theorem dX8_readTest_107 : decode cX8_readTest 107 = .ok (.putfield 177, 3) := by decide +kernel
theorem dX8_readTest_110 : decode cX8_readTest 110 = .ok (.aload_n 0, 1) := by decide +kernel
theorem dX8_readTest_111 : decode cX8_readTest 111 = .ok (.invokevirtual 202, 3) := by decide +kernel
theorem dX8_readTest_114 : decode cX8_readTest 114 = .ok (.ifCond .ne 5, 3) := by decide +kernel
theorem dX8_readTest_117 : decode cX8_readTest 117 = .ok (.iconst 0, 1) := by decide +kernel
theorem dX8_readTest_118 : decode cX8_readTest 118 = .ok (.ireturn, 1) := by decide +kernel
theorem dX8_readTest_119 : decode cX8_readTest 119 = .ok (.aload_n 0, 1) := by decide +kernel
theorem dX8_readTest_120 : decode cX8_readTest 120 = .ok (.iload_n 2, 1) := by decide +kernel
theorem dX8_readTest_121 : decode cX8_readTest 121 = .ok (.bipush 61, 2) := by decide +kernel
theorem dX8_readTest_123 : decode cX8_readTest 123 = .ok (.if_icmp .ne 8, 3) := by decide +kernel
theorem dX8_readTest_126 : decode cX8_readTest 126 = .ok (.bipush 15, 2) := by decide +kernel
theorem dX8_readTest_128 : decode cX8_readTest 128 = .ok (.goto 27, 3) := by decide +kernel
theorem dX8_readTest_131 : decode cX8_readTest 131 = .ok (.iload_n 2, 1) := by decide +kernel
theorem dX8_readTest_132 : decode cX8_readTest 132 = .ok (.bipush 35, 2) := by decide +kernel
theorem dX8_readTest_134 : decode cX8_readTest 134 = .ok (.if_icmp .ne 8, 3) := by decide +kernel
theorem dX8_readTest_137 : decode cX8_readTest 137 = .ok (.bipush 16, 2) := by decide +kernel
theorem dX8_readTest_139 : decode cX8_readTest 139 = .ok (.goto 16, 3) := by decide +kernel
theorem dX8_readTest_142 : decode cX8_readTest 142 = .ok (.iload_n 2, 1) := by decide +kernel
theorem dX8_readTest_143 : decode cX8_readTest 143 = .ok (.bipush 60, 2) := by decide +kernel
theorem dX8_readTest_145 : decode cX8_readTest 145 = .ok (.if_icmp .ne 8, 3) := by decide +kernel
theorem dX8_readTest_148 : decode cX8_readTest 148 = .ok (.bipush 17, 2) := by decide +kernel
theorem dX8_readTest_150 : decode cX8_readTest 150 = .ok (.goto 5, 3) := by decide +kernel
theorem dX8_readTest_153 : decode cX8_readTest 153 = .ok (.bipush 18, 2) := by decide +kernel
theorem dX8_readTest_155 : decode cX8_readTest 155 = .ok (.iconst 0, 1) := by decide +kernel
theorem dX8_readTest_156 : decode cX8_readTest 156 = .ok (.invokevirtual 196, 3) := by decide +kernel
theorem dX8_readTest_159 : decode cX8_readTest 159 = .ok (.iconst 0, 1) := by decide +kernel
theorem dX8_readTest_160 : decode cX8_readTest 160 = .ok (.istore_n 2, 1) := by decide +kernel
theorem dX8_readTest_161 : decode cX8_readTest 161 = .ok (.iload_n 2, 1) := by decide +kernel
theorem dX8_readTest_162 : decode cX8_readTest 162 = .ok (.iload_n 1, 1) := by decide +kernel
theorem dX8_readTest_163 : decode cX8_readTest 163 = .ok (.if_icmp .ge 26, 3) := by decide +kernel
theorem dX8_readTest_166 : decode cX8_readTest 166 = .ok (.aload_n 0, 1) := by decide +kernel
theorem dX8_readTest_167 : decode cX8_readTest 167 = .ok (.bipush 21, 2) := by decide +kernel
theorem dX8_readTest_169 : decode cX8_readTest 169 = .ok (.iconst 0, 1) := by decide +kernel
theorem dX8_readTest_170 : decode cX8_readTest 170 = .ok (.invokevirtual 196, 3) := by decide +kernel
theorem dX8_readTest_173 : decode cX8_readTest 173 = .ok (.aload_n 0, 1) := by decide +kernel
theorem dX8_readTest_174 : decode cX8_readTest 174 = .ok (.dup, 1) := by decide +kernel
theorem dX8_readTest_175 : decode cX8_readTest 175 = .ok (.getfield 186, 3) := by decide +kernel
theorem dX8_readTest_178 : decode cX8_readTest 178 = .ok (.iconst 1, 1) := by decide +kernel
theorem dX8_readTest_179 : decode cX8_readTest 179 = .ok (.isub, 1) := by decide +kernel
theorem dX8_readTest_180 : decode cX8_readTest 180 = .ok (.putfield 186, 3) := by decide +kernel
theorem dX8_readTest_183 : decode cX8_readTest 183 = .ok (.iinc 2 1, 3) := by decide +kernel
theorem dX8_readTest_186 : decode cX8_readTest 186 = .ok (.goto (-25), 3) := by decide +kernel
theorem dX8_readTest_189 : decode cX8_readTest 189 = .ok (.iconst 1, 1) := by decide +kernel
theorem dX8_readTest_190 : decode cX8_readTest 190 = .ok (.ireturn, 1) := by decide +kernel
theorem dX8_readAnd_0 : decode cX8_readAnd 0 = .ok (.aload_n 0, 1) := by decide +kernel
theorem dX8_readAnd_1 : decode cX8_readAnd 1 = .ok (.invokevirtual 223, 3) := by decide +kernel
theorem dX8_readAnd_4 : decode cX8_readAnd 4 = .ok (.ifCond .ne 5, 3) := by decide +kernel
theorem dX8_readAnd_7 : decode cX8_readAnd 7 = .ok (.iconst 0, 1) := by decide +kernel
theorem dX8_readAnd_8 : decode cX8_readAnd 8 = .ok (.ireturn, 1) := by decide +kernel
theorem dX8_readAnd_9 : decode cX8_readAnd 9 = .ok (.aload_n 0, 1) := by decide +kernel
theorem dX8_readAnd_10 : decode cX8_readAnd 10 = .ok (.invokevirtual 180, 3) := by decide +kernel
theorem dX8_readAnd_13 : decode cX8_readAnd 13 = .ok (.bipush 38, 2) := by decide +kernel
theorem dX8_readAnd_15 : decode cX8_readAnd 15 = .ok (.if_icmp .ne 32, 3) := by decide +kernel
theorem dX8_readAnd_18 : decode cX8_readAnd 18 = .ok (.aload_n 0, 1) := by decide +kernel
theorem dX8_readAnd_19 : decode cX8_readAnd 19 = .ok (.dup, 1) := by decide +kernel
theorem dX8_readAnd_20 : decode cX8_readAnd 20 = .ok (.getfield 177, 3) := by decide +kernel
theorem dX8_readAnd_23 : decode cX8_readAnd 23 = .ok (.iconst 1, 1) := by decide +kernel
theorem dX8_readAnd_24 : decode cX8_readAnd 24 = .ok (.iadd, 1) := by decide +kernel
theorem dX8_readAnd_25 : decode cX8_readAnd 25 = .ok (.putfield 177, 3) := by decide +kernel
theorem dX8_readAnd_28 : decode cX8_readAnd 28 = .ok (.aload_n 0, 1) := by decide +kernel
theorem dX8_readAnd_29 : decode cX8_readAnd 29 = .ok (.invokevirtual 223, 3) := by decide +kernel
theorem dX8_readAnd_32 : decode cX8_readAnd 32 = .ok (.ifCond .ne 5, 3) := by decide +kernel
theorem dX8_readAnd_35 : decode cX8_readAnd 35 = .ok (.iconst 0, 1) := by decide +kernel
theorem dX8_readAnd_36 : decode cX8_readAnd 36 = .ok (.ireturn, 1) := by decide +kernel
theorem dX8_readAnd_37 : decode cX8_readAnd 37 = .ok (.aload_n 0, 1) := by decide +kernel
theorem dX8_readAnd_38 : decode cX8_readAnd 38 = .ok (.bipush 19, 2) := by decide +kernel
theorem dX8_readAnd_40 : decode cX8_readAnd 40 = .ok (.iconst 0, 1) := by decide +kernel
theorem dX8_readAnd_41 : decode cX8_readAnd 41 = .ok (.invokevirtual 196, 3) := by decide +kernel
theorem dX8_readAnd_44 : decode cX8_readAnd 44 = .ok (.goto (-35), 3) := by decide +kernel
theorem dX8_readAnd_47 : decode cX8_readAnd 47 = .ok (.iconst 1, 1) := by decide +kernel
theorem dX8_readAnd_48 : decode cX8_readAnd 48 = .ok (.ireturn, 1) := by decide +kernel
theorem dX8_readOr_0 : decode cX8_readOr 0 = .ok (.aload_n 0, 1) := by decide +kernel
theorem dX8_readOr_1 : decode cX8_readOr 1 = .ok (.invokevirtual 226, 3) := by decide +kernel
theorem dX8_readOr_4 : decode cX8_readOr 4 = .ok (.ifCond .ne 5, 3) := by decide +kernel
theorem dX8_readOr_7 : decode cX8_readOr 7 = .ok (.iconst 0, 1) := by decide +kernel
theorem dX8_readOr_8 : decode cX8_readOr 8 = .ok (.ireturn, 1) := by decide +kernel
theorem dX8_readOr_9 : decode cX8_readOr 9 = .ok (.aload_n 0, 1) := by decide +kernel
theorem dX8_readOr_10 : decode cX8_readOr 10 = .ok (.invokevirtual 180, 3) := by decide +kernel
theorem dX8_readOr_13 : decode cX8_readOr 13 = .ok (.bipush 124, 2) := by decide +kernel
theorem dX8_readOr_15 : decode cX8_readOr 15 = .ok (.if_icmp .ne 32, 3) := by decide +kernel
theorem dX8_readOr_18 : decode cX8_readOr 18 = .ok (.aload_n 0, 1) := by decide +kernel
theorem dX8_readOr_19 : decode cX8_readOr 19 = .ok (.dup, 1) := by decide +kernel
theorem dX8_readOr_20 : decode cX8_readOr 20 = .ok (.getfield 177, 3) := by decide +kernel
theorem dX8_readOr_23 : decode cX8_readOr 23 = .ok (.iconst 1, 1) := by decide +kernel
theorem dX8_readOr_24 : decode cX8_readOr 24 = .ok (.iadd, 1) := by decide +kernel
theorem dX8_readOr_25 : decode cX8_readOr 25 = .ok (.putfield 177, 3) := by decide +kernel
theorem dX8_readOr_28 : decode cX8_readOr 28 = .ok (.aload_n 0, 1) := by decide +kernel
theorem dX8_readOr_29 : decode cX8_readOr 29 = .ok (.invokevirtual 226, 3) := by decide +kernel
theorem dX8_readOr_32 : decode cX8_readOr 32 = .ok (.ifCond .ne 5, 3) := by decide +kernel
theorem dX8_readOr_35 : decode cX8_readOr 35 = .ok (.iconst 0, 1) := by decide +kernel
theorem dX8_readOr_36 : decode cX8_readOr 36 = .ok (.ireturn, 1) := by decide +kernel
theorem dX8_readOr_37 : decode cX8_readOr 37 = .ok (.aload_n 0, 1) := by decide +kernel
theorem dX8_readOr_38 : decode cX8_readOr 38 = .ok (.bipush 20, 2) := by decide +kernel
theorem dX8_readOr_40 : decode cX8_readOr 40 = .ok (.iconst 0, 1) := by decide +kernel
theorem dX8_readOr_41 : decode cX8_readOr 41 = .ok (.invokevirtual 196, 3) := by decide +kernel
theorem dX8_readOr_44 : decode cX8_readOr 44 = .ok (.goto (-35), 3) := by decide +kernel
theorem dX8_readOr_47 : decode cX8_readOr 47 = .ok (.iconst 1, 1) := by decide +kernel
theorem dX8_readOr_48 : decode cX8_readOr 48 = .ok (.ireturn, 1) := by decide +kernel
theorem dX8_end_0 : decode cX8_end 0 = .ok (.aload_n 0, 1) := by decide +kernel
theorem dX8_end_1 : decode cX8_end 1 = .ok (.getfield 39, 3) := by decide +kernel
theorem dX8_end_4 : decode cX8_end 4 = .ok (.iconst 4, 1) := by decide +kernel
theorem dX8_end_5 : decode cX8_end 5 = .ok (.aload_n 0, 1) := by decide +kernel
theorem dX8_end_6 : decode cX8_end 6 = .ok (.getfield 148, 3) := by decide +kernel
theorem dX8_end_9 : decode cX8_end 9 = .ok (.imul, 1) := by decide +kernel
theorem dX8_end_10 : decode cX8_end 10 = .ok (.iload_n 1, 1) := by decide +kernel
theorem dX8_end_11 : decode cX8_end 11 = .ok (.iadd, 1) := by decide +kernel
theorem dX8_end_12 : decode cX8_end 12 = .ok (.sipush 240, 3) := by decide +kernel
theorem dX8_end_15 : decode cX8_end 15 = .ok (.aload_n 0, 1) := by decide +kernel
theorem dX8_end_16 : decode cX8_end 16 = .ok (.getfield 148, 3) := by decide +kernel
theorem dX8_end_19 : decode cX8_end 19 = .ok (.imul, 1) := by decide +kernel
theorem dX8_end_20 : decode cX8_end 20 = .ok (.aload_n 0, 1) := by decide +kernel
theorem dX8_end_21 : decode cX8_end 21 = .ok (.getfield 183, 3) := by decide +kernel
theorem dX8_end_24 : decode cX8_end 24 = .ok (.iadd, 1) := by decide +kernel
theorem dX8_end_25 : decode cX8_end 25 = .ok (.iastore, 1) := by decide +kernel
theorem dX8_end_26 : decode cX8_end 26 = .ok (.return_, 1) := by decide +kernel
theorem dX8_readQuery_0 : decode cX8_readQuery 0 = .ok (.aload_n 0, 1) := by decide +kernel
theorem dX8_readQuery_1 : decode cX8_readQuery 1 = .ok (.invokevirtual 180, 3) := by decide +kernel
theorem dX8_readQuery_4 : decode cX8_readQuery 4 = .ok (.bipush 48, 2) := by decide +kernel
theorem dX8_readQuery_6 : decode cX8_readQuery 6 = .ok (.bipush 51, 2) := by decide +kernel
theorem dX8_readQuery_8 : decode cX8_readQuery 8 = .ok (.invokestatic 97, 3) := by decide +kernel
theorem dX8_readQuery_11 : decode cX8_readQuery 11 = .ok (.ifCond .ne 5, 3) := by decide +kernel
theorem dX8_readQuery_14 : decode cX8_readQuery 14 = .ok (.iconst 0, 1) := by decide +kernel
theorem dX8_readQuery_15 : decode cX8_readQuery 15 = .ok (.ireturn, 1) := by decide +kernel
theorem dX8_readQuery_16 : decode cX8_readQuery 16 = .ok (.aload_n 0, 1) := by decide +kernel
theorem dX8_readQuery_17 : decode cX8_readQuery 17 = .ok (.getfield 33, 3) := by decide +kernel
theorem dX8_readQuery_20 : decode cX8_readQuery 20 = .ok (.aload_n 0, 1) := by decide +kernel
theorem dX8_readQuery_21 : decode cX8_readQuery 21 = .ok (.getfield 148, 3) := by decide +kernel
theorem dX8_readQuery_24 : decode cX8_readQuery 24 = .ok (.aload_n 0, 1) := by decide +kernel
theorem dX8_readQuery_25 : decode cX8_readQuery 25 = .ok (.invokevirtual 180, 3) := by decide +kernel
theorem dX8_readQuery_28 : decode cX8_readQuery 28 = .ok (.bipush 48, 2) := by decide +kernel
theorem dX8_readQuery_30 : decode cX8_readQuery 30 = .ok (.isub, 1) := by decide +kernel
theorem dX8_readQuery_31 : decode cX8_readQuery 31 = .ok (.iastore, 1) := by decide +kernel
theorem dX8_readQuery_32 : decode cX8_readQuery 32 = .ok (.aload_n 0, 1) := by decide +kernel
theorem dX8_readQuery_33 : decode cX8_readQuery 33 = .ok (.dup, 1) := by decide +kernel
theorem dX8_readQuery_34 : decode cX8_readQuery 34 = .ok (.getfield 177, 3) := by decide +kernel
theorem dX8_readQuery_37 : decode cX8_readQuery 37 = .ok (.iconst 1, 1) := by decide +kernel
theorem dX8_readQuery_38 : decode cX8_readQuery 38 = .ok (.iadd, 1) := by decide +kernel
theorem dX8_readQuery_39 : decode cX8_readQuery 39 = .ok (.putfield 177, 3) := by decide +kernel
theorem dX8_readQuery_42 : decode cX8_readQuery 42 = .ok (.aload_n 0, 1) := by decide +kernel
theorem dX8_readQuery_43 : decode cX8_readQuery 43 = .ok (.bipush 58, 2) := by decide +kernel
theorem dX8_readQuery_45 : decode cX8_readQuery 45 = .ok (.invokevirtual 189, 3) := by decide +kernel
theorem dX8_readQuery_48 : decode cX8_readQuery 48 = .ok (.ifCond .eq 19, 3) := by decide +kernel
theorem dX8_readQuery_51 : decode cX8_readQuery 51 = .ok (.aload_n 0, 1) := by decide +kernel
theorem dX8_readQuery_52 : decode cX8_readQuery 52 = .ok (.invokevirtual 180, 3) := by decide +kernel
theorem dX8_readQuery_55 : decode cX8_readQuery 55 = .ok (.bipush 59, 2) := by decide +kernel
theorem dX8_readQuery_57 : decode cX8_readQuery 57 = .ok (.if_icmp .eq 12, 3) := by decide +kernel
theorem dX8_readQuery_60 : decode cX8_readQuery 60 = .ok (.aload_n 0, 1) := by decide +kernel
theorem dX8_readQuery_61 : decode cX8_readQuery 61 = .ok (.invokevirtual 220, 3) := by decide +kernel
theorem dX8_readQuery_64 : decode cX8_readQuery 64 = .ok (.ifCond .ne 5, 3) := by decide +kernel
theorem dX8_readQuery_67 : decode cX8_readQuery 67 = .ok (.iconst 0, 1) := by decide +kernel
theorem dX8_readQuery_68 : decode cX8_readQuery 68 = .ok (.ireturn, 1) := by decide +kernel
theorem dX8_readQuery_69 : decode cX8_readQuery 69 = .ok (.aload_n 0, 1) := by decide +kernel
theorem dX8_readQuery_70 : decode cX8_readQuery 70 = .ok (.iconst 0, 1) := by decide +kernel
theorem dX8_readQuery_71 : decode cX8_readQuery 71 = .ok (.invokevirtual 229, 3) := by decide +kernel
theorem dX8_readQuery_74 : decode cX8_readQuery 74 = .ok (.aload_n 0, 1) := by decide +kernel
theorem dX8_readQuery_75 : decode cX8_readQuery 75 = .ok (.bipush 59, 2) := by decide +kernel
theorem dX8_readQuery_77 : decode cX8_readQuery 77 = .ok (.invokevirtual 189, 3) := by decide +kernel
theorem dX8_readQuery_80 : decode cX8_readQuery 80 = .ok (.ifCond .eq 19, 3) := by decide +kernel
theorem dX8_readQuery_83 : decode cX8_readQuery 83 = .ok (.aload_n 0, 1) := by decide +kernel
theorem dX8_readQuery_84 : decode cX8_readQuery 84 = .ok (.invokevirtual 180, 3) := by decide +kernel
theorem dX8_readQuery_87 : decode cX8_readQuery 87 = .ok (.bipush 59, 2) := by decide +kernel
theorem dX8_readQuery_89 : decode cX8_readQuery 89 = .ok (.if_icmp .eq 12, 3) := by decide +kernel
theorem dX8_readQuery_92 : decode cX8_readQuery 92 = .ok (.aload_n 0, 1) := by decide +kernel
theorem dX8_readQuery_93 : decode cX8_readQuery 93 = .ok (.invokevirtual 202, 3) := by decide +kernel
theorem dX8_readQuery_96 : decode cX8_readQuery 96 = .ok (.ifCond .ne 5, 3) := by decide +kernel
theorem dX8_readQuery_99 : decode cX8_readQuery 99 = .ok (.iconst 0, 1) := by decide +kernel
theorem dX8_readQuery_100 : decode cX8_readQuery 100 = .ok (.ireturn, 1) := by decide +kernel
theorem dX8_readQuery_101 : decode cX8_readQuery 101 = .ok (.aload_n 0, 1) := by decide +kernel
theorem dX8_readQuery_102 : decode cX8_readQuery 102 = .ok (.iconst 1, 1) := by decide +kernel
theorem dX8_readQuery_103 : decode cX8_readQuery 103 = .ok (.invokevirtual 229, 3) := by decide +kernel
theorem dX8_readQuery_106 : decode cX8_readQuery 106 = .ok (.aload_n 0, 1) := by decide +kernel
theorem dX8_readQuery_107 : decode cX8_readQuery 107 = .ok (.bipush 59, 2) := by decide +kernel
theorem dX8_readQuery_109 : decode cX8_readQuery 109 = .ok (.invokevirtual 189, 3) := by decide +kernel
theorem dX8_readQuery_112 : decode cX8_readQuery 112 = .ok (.ifCond .ne 5, 3) := by decide +kernel
theorem dX8_readQuery_115 : decode cX8_readQuery 115 = .ok (.iconst 0, 1) := by decide +kernel
theorem dX8_readQuery_116 : decode cX8_readQuery 116 = .ok (.ireturn, 1) := by decide +kernel
theorem dX8_readQuery_117 : decode cX8_readQuery 117 = .ok (.aload_n 0, 1) := by decide +kernel
theorem dX8_readQuery_118 : decode cX8_readQuery 118 = .ok (.getfield 36, 3) := by decide +kernel
theorem dX8_readQuery_121 : decode cX8_readQuery 121 = .ok (.aload_n 0, 1) := by decide +kernel
theorem dX8_readQuery_122 : decode cX8_readQuery 122 = .ok (.getfield 148, 3) := by decide +kernel
theorem dX8_readQuery_125 : decode cX8_readQuery 125 = .ok (.iconst 0, 1) := by decide +kernel
theorem dX8_readQuery_126 : decode cX8_readQuery 126 = .ok (.iastore, 1) := by decide +kernel
theorem dX8_readQuery_127 : decode cX8_readQuery 127 = .ok (.iconst 0, 1) := by decide +kernel
theorem dX8_readQuery_128 : decode cX8_readQuery 128 = .ok (.istore_n 1, 1) := by decide +kernel
theorem dX8_readQuery_129 : decode cX8_readQuery 129 = .ok (.iload_n 1, 1) := by decide +kernel
theorem dX8_readQuery_130 : decode cX8_readQuery 130 = .ok (.iconst 2, 1) := by decide +kernel
theorem dX8_readQuery_131 : decode cX8_readQuery 131 = .ok (.if_icmp .ge 55, 3) := by decide +kernel
theorem dX8_readQuery_134 : decode cX8_readQuery 134 = .ok (.aload_n 0, 1) := by decide +kernel
theorem dX8_readQuery_135 : decode cX8_readQuery 135 = .ok (.invokevirtual 192, 3) := by decide +kernel
theorem dX8_readQuery_138 : decode cX8_readQuery 138 = .ok (.ifCond .eq 48, 3) := by decide +kernel
theorem dX8_readQuery_141 : decode cX8_readQuery 141 = .ok (.aload_n 0, 1) := by decide +kernel
theorem dX8_readQuery_142 : decode cX8_readQuery 142 = .ok (.getfield 36, 3) := by decide +kernel
theorem dX8_readQuery_145 : decode cX8_readQuery 145 = .ok (.aload_n 0, 1) := by decide +kernel
theorem dX8_readQuery_146 : decode cX8_readQuery 146 = .ok (.getfield 148, 3) := by decide +kernel
theorem dX8_readQuery_149 : decode cX8_readQuery 149 = .ok (.bipush 10, 2) := by decide +kernel
theorem dX8_readQuery_151 : decode cX8_readQuery 151 = .ok (.aload_n 0, 1) := by decide +kernel
theorem dX8_readQuery_152 : decode cX8_readQuery 152 = .ok (.getfield 36, 3) := by decide +kernel
theorem dX8_readQuery_155 : decode cX8_readQuery 155 = .ok (.aload_n 0, 1) := by decide +kernel
theorem dX8_readQuery_156 : decode cX8_readQuery 156 = .ok (.getfield 148, 3) := by decide +kernel
theorem dX8_readQuery_159 : decode cX8_readQuery 159 = .ok (.iaload, 1) := by decide +kernel
theorem dX8_readQuery_160 : decode cX8_readQuery 160 = .ok (.imul, 1) := by decide +kernel
theorem dX8_readQuery_161 : decode cX8_readQuery 161 = .ok (.aload_n 0, 1) := by decide +kernel
theorem dX8_readQuery_162 : decode cX8_readQuery 162 = .ok (.invokevirtual 180, 3) := by decide +kernel
theorem dX8_readQuery_165 : decode cX8_readQuery 165 = .ok (.iadd, 1) := by decide +kernel
theorem dX8_readQuery_166 : decode cX8_readQuery 166 = .ok (.bipush 48, 2) := by decide +kernel
theorem dX8_readQuery_168 : decode cX8_readQuery 168 = .ok (.isub, 1) := by decide +kernel
theorem dX8_readQuery_169 : decode cX8_readQuery 169 = .ok (.iastore, 1) := by decide +kernel
theorem dX8_readQuery_170 : decode cX8_readQuery 170 = .ok (.aload_n 0, 1) := by decide +kernel
theorem dX8_readQuery_171 : decode cX8_readQuery 171 = .ok (.dup, 1) := by decide +kernel
theorem dX8_readQuery_172 : decode cX8_readQuery 172 = .ok (.getfield 177, 3) := by decide +kernel
theorem dX8_readQuery_175 : decode cX8_readQuery 175 = .ok (.iconst 1, 1) := by decide +kernel
theorem dX8_readQuery_176 : decode cX8_readQuery 176 = .ok (.iadd, 1) := by decide +kernel
theorem dX8_readQuery_177 : decode cX8_readQuery 177 = .ok (.putfield 177, 3) := by decide +kernel
theorem dX8_readQuery_180 : decode cX8_readQuery 180 = .ok (.iinc 1 1, 3) := by decide +kernel
theorem dX8_readQuery_183 : decode cX8_readQuery 183 = .ok (.goto (-54), 3) := by decide +kernel
theorem dX8_readQuery_186 : decode cX8_readQuery 186 = .ok (.aload_n 0, 1) := by decide +kernel
theorem dX8_readQuery_187 : decode cX8_readQuery 187 = .ok (.bipush 59, 2) := by decide +kernel
theorem dX8_readQuery_189 : decode cX8_readQuery 189 = .ok (.invokevirtual 189, 3) := by decide +kernel
theorem dX8_readQuery_192 : decode cX8_readQuery 192 = .ok (.ifCond .eq 19, 3) := by decide +kernel
theorem dX8_readQuery_195 : decode cX8_readQuery 195 = .ok (.aload_n 0, 1) := by decide +kernel
theorem dX8_readQuery_196 : decode cX8_readQuery 196 = .ok (.invokevirtual 180, 3) := by decide +kernel
theorem dX8_readQuery_199 : decode cX8_readQuery 199 = .ok (.bipush 59, 2) := by decide +kernel
theorem dX8_readQuery_201 : decode cX8_readQuery 201 = .ok (.if_icmp .eq 12, 3) := by decide +kernel
theorem dX8_readQuery_204 : decode cX8_readQuery 204 = .ok (.aload_n 0, 1) := by decide +kernel
theorem dX8_readQuery_205 : decode cX8_readQuery 205 = .ok (.invokevirtual 202, 3) := by decide +kernel
theorem dX8_readQuery_208 : decode cX8_readQuery 208 = .ok (.ifCond .ne 5, 3) := by decide +kernel
theorem dX8_readQuery_211 : decode cX8_readQuery 211 = .ok (.iconst 0, 1) := by decide +kernel
theorem dX8_readQuery_212 : decode cX8_readQuery 212 = .ok (.ireturn, 1) := by decide +kernel
theorem dX8_readQuery_213 : decode cX8_readQuery 213 = .ok (.aload_n 0, 1) := by decide +kernel
theorem dX8_readQuery_214 : decode cX8_readQuery 214 = .ok (.iconst 2, 1) := by decide +kernel
theorem dX8_readQuery_215 : decode cX8_readQuery 215 = .ok (.invokevirtual 229, 3) := by decide +kernel
theorem dX8_readQuery_218 : decode cX8_readQuery 218 = .ok (.aload_n 0, 1) := by decide +kernel
theorem dX8_readQuery_219 : decode cX8_readQuery 219 = .ok (.bipush 59, 2) := by decide +kernel
theorem dX8_readQuery_221 : decode cX8_readQuery 221 = .ok (.invokevirtual 189, 3) := by decide +kernel
theorem dX8_readQuery_224 : decode cX8_readQuery 224 = .ok (.ifCond .eq 17, 3) := by decide +kernel
theorem dX8_readQuery_227 : decode cX8_readQuery 227 = .ok (.aload_n 0, 1) := by decide +kernel
theorem dX8_readQuery_228 : decode cX8_readQuery 228 = .ok (.invokevirtual 180, 3) := by decide +kernel
theorem dX8_readQuery_231 : decode cX8_readQuery 231 = .ok (.ifCond .eq 12, 3) := by decide +kernel
theorem dX8_readQuery_234 : decode cX8_readQuery 234 = .ok (.aload_n 0, 1) := by decide +kernel
theorem dX8_readQuery_235 : decode cX8_readQuery 235 = .ok (.invokevirtual 202, 3) := by decide +kernel
theorem dX8_readQuery_238 : decode cX8_readQuery 238 = .ok (.ifCond .ne 5, 3) := by decide +kernel
theorem dX8_readQuery_241 : decode cX8_readQuery 241 = .ok (.iconst 0, 1) := by decide +kernel
theorem dX8_readQuery_242 : decode cX8_readQuery 242 = .ok (.ireturn, 1) := by decide +kernel
theorem dX8_readQuery_243 : decode cX8_readQuery 243 = .ok (.aload_n 0, 1) := by decide +kernel
theorem dX8_readQuery_244 : decode cX8_readQuery 244 = .ok (.iconst 3, 1) := by decide +kernel
theorem dX8_readQuery_245 : decode cX8_readQuery 245 = .ok (.invokevirtual 229, 3) := by decide +kernel
theorem dX8_readQuery_248 : decode cX8_readQuery 248 = .ok (.aload_n 0, 1) := by decide +kernel
theorem dX8_readQuery_249 : decode cX8_readQuery 249 = .ok (.invokevirtual 180, 3) := by decide +kernel
theorem dX8_readQuery_252 : decode cX8_readQuery 252 = .ok (.ifCond .ne 7, 3) := by decide +kernel
theorem dX8_readQuery_255 : decode cX8_readQuery 255 = .ok (.iconst 1, 1) := by decide +kernel
theorem dX8_readQuery_256 : decode cX8_readQuery 256 = .ok (.goto 4, 3) := by decide +kernel
theorem dX8_readQuery_259 : decode cX8_readQuery 259 = .ok (.iconst 0, 1) := by decide +kernel
theorem dX8_readQuery_260 : decode cX8_readQuery 260 = .ok (.ireturn, 1) := by decide +kernel
theorem dX8_query_0 : decode cX8_query 0 = .ok (.aload_n 0, 1) := by decide +kernel
theorem dX8_query_1 : decode cX8_query 1 = .ok (.getfield 148, 3) := by decide +kernel
theorem dX8_query_4 : decode cX8_query 4 = .ok (.bipush 6, 2) := by decide +kernel
theorem dX8_query_6 : decode cX8_query 6 = .ok (.if_icmp .ne 15, 3) := by decide +kernel
theorem dX8_query_9 : decode cX8_query 9 = .ok (.aload_n 0, 1) := by decide +kernel
theorem dX8_query_10 : decode cX8_query 10 = .ok (.iconst 0, 1) := by decide +kernel
theorem dX8_query_11 : decode cX8_query 11 = .ok (.putfield 172, 3) := by decide +kernel
theorem dX8_query_14 : decode cX8_query 14 = .ok (.aload_n 0, 1) := by decide +kernel
theorem dX8_query_15 : decode cX8_query 15 = .ok (.iconst 1, 1) := by decide +kernel
theorem dX8_query_16 : decode cX8_query 16 = .ok (.putfield 90, 3) := by decide +kernel
theorem dX8_query_19 : decode cX8_query 19 = .ok (.iconst 0, 1) := by decide +kernel
theorem dX8_query_20 : decode cX8_query 20 = .ok (.ireturn, 1) := by decide +kernel
theorem dX8_query_21 : decode cX8_query 21 = .ok (.aload_n 0, 1) := by decide +kernel
theorem dX8_query_22 : decode cX8_query 22 = .ok (.iconst 0, 1) := by decide +kernel
theorem dX8_query_23 : decode cX8_query 23 = .ok (.putfield 90, 3) := by decide +kernel
theorem dX8_query_26 : decode cX8_query 26 = .ok (.aload_n 0, 1) := by decide +kernel
theorem dX8_query_27 : decode cX8_query 27 = .ok (.iconst 0, 1) := by decide +kernel
theorem dX8_query_28 : decode cX8_query 28 = .ok (.putfield 177, 3) := by decide +kernel
theorem dX8_query_31 : decode cX8_query 31 = .ok (.aload_n 0, 1) := by decide +kernel
theorem dX8_query_32 : decode cX8_query 32 = .ok (.iconst 0, 1) := by decide +kernel
theorem dX8_query_33 : decode cX8_query 33 = .ok (.putfield 183, 3) := by decide +kernel
theorem dX8_query_36 : decode cX8_query 36 = .ok (.aload_n 0, 1) := by decide +kernel
theorem dX8_query_37 : decode cX8_query 37 = .ok (.iconst 0, 1) := by decide +kernel
theorem dX8_query_38 : decode cX8_query 38 = .ok (.putfield 186, 3) := by decide +kernel
theorem dX8_query_41 : decode cX8_query 41 = .ok (.aload_n 0, 1) := by decide +kernel
theorem dX8_query_42 : decode cX8_query 42 = .ok (.invokevirtual 232, 3) := by decide +kernel
theorem dX8_query_45 : decode cX8_query 45 = .ok (.istore_n 1, 1) := by decide +kernel
theorem dX8_query_46 : decode cX8_query 46 = .ok (.aload_n 0, 1) := by decide +kernel
theorem dX8_query_47 : decode cX8_query 47 = .ok (.iconst 0, 1) := by decide +kernel
theorem dX8_query_48 : decode cX8_query 48 = .ok (.putfield 172, 3) := by decide +kernel
theorem dX8_query_51 : decode cX8_query 51 = .ok (.iload_n 1, 1) := by decide +kernel
theorem dX8_query_52 : decode cX8_query 52 = .ok (.ifCond .ne 10, 3) := by decide +kernel
theorem dX8_query_55 : decode cX8_query 55 = .ok (.iconst (-1), 1) := by decide +kernel
theorem dX8_query_56 : decode cX8_query 56 = .ok (.aload_n 0, 1) := by decide +kernel
theorem dX8_query_57 : decode cX8_query 57 = .ok (.getfield 177, 3) := by decide +kernel
theorem dX8_query_60 : decode cX8_query 60 = .ok (.isub, 1) := by decide +kernel
theorem dX8_query_61 : decode cX8_query 61 = .ok (.ireturn, 1) := by decide +kernel
theorem dX8_query_62 : decode cX8_query 62 = .ok (.aload_n 0, 1) := by decide +kernel
theorem dX8_query_63 : decode cX8_query 63 = .ok (.dup, 1) := by decide +kernel
theorem dX8_query_64 : decode cX8_query 64 = .ok (.getfield 148, 3) := by decide +kernel
theorem dX8_query_67 : decode cX8_query 67 = .ok (.iconst 1, 1) := by decide +kernel
theorem dX8_query_68 : decode cX8_query 68 = .ok (.iadd, 1) := by decide +kernel
theorem dX8_query_69 : decode cX8_query 69 = .ok (.putfield 148, 3) := by decide +kernel
theorem dX8_query_72 : decode cX8_query 72 = .ok (.aload_n 0, 1) := by decide +kernel
theorem dX8_query_73 : decode cX8_query 73 = .ok (.getfield 148, 3) := by decide +kernel
theorem dX8_query_76 : decode cX8_query 76 = .ok (.iconst 1, 1) := by decide +kernel
theorem dX8_query_77 : decode cX8_query 77 = .ok (.isub, 1) := by decide +kernel
theorem dX8_query_78 : decode cX8_query 78 = .ok (.ireturn, 1) := by decide +kernel
theorem dX8_isQuery_0 : decode cX8_isQuery 0 = .ok (.iload_n 1, 1) := by decide +kernel
theorem dX8_isQuery_1 : decode cX8_isQuery 1 = .ok (.iconst 0, 1) := by decide +kernel
theorem dX8_isQuery_2 : decode cX8_isQuery 2 = .ok (.aload_n 0, 1) := by decide +kernel
theorem dX8_isQuery_3 : decode cX8_isQuery 3 = .ok (.getfield 148, 3) := by decide +kernel
theorem dX8_isQuery_6 : decode cX8_isQuery 6 = .ok (.iconst 1, 1) := by decide +kernel
theorem dX8_isQuery_7 : decode cX8_isQuery 7 = .ok (.isub, 1) := by decide +kernel
theorem dX8_isQuery_8 : decode cX8_isQuery 8 = .ok (.invokestatic 97, 3) := by decide +kernel
theorem dX8_isQuery_11 : decode cX8_isQuery 11 = .ok (.ireturn, 1) := by decide +kernel
theorem dX8_size_0 : decode cX8_size 0 = .ok (.aload_n 0, 1) := by decide +kernel
theorem dX8_size_1 : decode cX8_size 1 = .ok (.iconst 0, 1) := by decide +kernel
theorem dX8_size_2 : decode cX8_size 2 = .ok (.putfield 90, 3) := by decide +kernel
theorem dX8_size_5 : decode cX8_size 5 = .ok (.aload_n 0, 1) := by decide +kernel
theorem dX8_size_6 : decode cX8_size 6 = .ok (.iload_n 1, 1) := by decide +kernel
theorem dX8_size_7 : decode cX8_size 7 = .ok (.invokevirtual 235, 3) := by decide +kernel
theorem dX8_size_10 : decode cX8_size 10 = .ok (.ifCond .ne 5, 3) := by decide +kernel
theorem dX8_size_13 : decode cX8_size 13 = .ok (.iconst (-1), 1) := by decide +kernel
theorem dX8_size_14 : decode cX8_size 14 = .ok (.ireturn, 1) := by decide +kernel
theorem dX8_size_15 : decode cX8_size 15 = .ok (.aload_n 0, 1) := by decide +kernel
theorem dX8_size_16 : decode cX8_size 16 = .ok (.iload_n 1, 1) := by decide +kernel
theorem dX8_size_17 : decode cX8_size 17 = .ok (.invokevirtual 238, 3) := by decide +kernel
theorem dX8_size_20 : decode cX8_size 20 = .ok (.iload_n 2, 1) := by decide +kernel
theorem dX8_size_21 : decode cX8_size 21 = .ok (.ifCond .ne 11, 3) := by decide +kernel
theorem dX8_size_24 : decode cX8_size 24 = .ok (.aload_n 0, 1) := by decide +kernel
theorem dX8_size_25 : decode cX8_size 25 = .ok (.iload_n 1, 1) := by decide +kernel
theorem dX8_size_26 : decode cX8_size 26 = .ok (.invokevirtual 151, 3) := by decide +kernel
theorem dX8_size_29 : decode cX8_size 29 = .ok (.goto 28, 3) := by decide +kernel
theorem dX8_size_32 : decode cX8_size 32 = .ok (.iload_n 2, 1) := by decide +kernel
theorem dX8_size_33 : decode cX8_size 33 = .ok (.iconst 1, 1) := by decide +kernel
theorem dX8_size_34 : decode cX8_size 34 = .ok (.if_icmp .ne 10, 3) := by decide +kernel
theorem dX8_size_37 : decode cX8_size 37 = .ok (.aload_n 0, 1) := by decide +kernel
theorem dX8_size_38 : decode cX8_size 38 = .ok (.getfield 130, 3) := by decide +kernel
theorem dX8_size_41 : decode cX8_size 41 = .ok (.goto 16, 3) := by decide +kernel
theorem dX8_size_44 : decode cX8_size 44 = .ok (.iload_n 2, 1) := by decide +kernel
theorem dX8_size_45 : decode cX8_size 45 = .ok (.iconst 2, 1) := by decide +kernel
theorem dX8_size_46 : decode cX8_size 46 = .ok (.if_icmp .ne 10, 3) := by decide +kernel
theorem dX8_size_49 : decode cX8_size 49 = .ok (.aload_n 0, 1) := by decide +kernel
theorem dX8_size_50 : decode cX8_size 50 = .ok (.getfield 141, 3) := by decide +kernel
theorem dX8_size_53 : decode cX8_size 53 = .ok (.goto 4, 3) := by decide +kernel
theorem dX8_size_56 : decode cX8_size 56 = .ok (.iconst (-1), 1) := by decide +kernel
theorem dX8_size_57 : decode cX8_size 57 = .ok (.ireturn, 1) := by decide +kernel
theorem dX8_got_0 : decode cX8_got 0 = .ok (.aload_n 0, 1) := by decide +kernel
theorem dX8_got_1 : decode cX8_got 1 = .ok (.iconst 0, 1) := by decide +kernel
theorem dX8_got_2 : decode cX8_got 2 = .ok (.putfield 90, 3) := by decide +kernel
theorem dX8_got_5 : decode cX8_got 5 = .ok (.aload_n 0, 1) := by decide +kernel
theorem dX8_got_6 : decode cX8_got 6 = .ok (.iload_n 1, 1) := by decide +kernel
theorem dX8_got_7 : decode cX8_got 7 = .ok (.invokevirtual 235, 3) := by decide +kernel
theorem dX8_got_10 : decode cX8_got 10 = .ok (.ifCond .ne 5, 3) := by decide +kernel
theorem dX8_got_13 : decode cX8_got 13 = .ok (.iconst (-1), 1) := by decide +kernel
theorem dX8_got_14 : decode cX8_got 14 = .ok (.ireturn, 1) := by decide +kernel
theorem dX8_got_15 : decode cX8_got 15 = .ok (.aload_n 0, 1) := by decide +kernel
theorem dX8_got_16 : decode cX8_got 16 = .ok (.iload_n 1, 1) := by decide +kernel
theorem dX8_got_17 : decode cX8_got 17 = .ok (.invokevirtual 137, 3) := by decide +kernel
theorem dX8_got_20 : decode cX8_got 20 = .ok (.iload_n 2, 1) := by decide +kernel
theorem dX8_got_21 : decode cX8_got 21 = .ok (.iconst 0, 1) := by decide +kernel
theorem dX8_got_22 : decode cX8_got 22 = .ok (.aload_n 0, 1) := by decide +kernel
theorem dX8_got_23 : decode cX8_got 23 = .ok (.getfield 130, 3) := by decide +kernel
theorem dX8_got_26 : decode cX8_got 26 = .ok (.iconst 1, 1) := by decide +kernel
theorem dX8_got_27 : decode cX8_got 27 = .ok (.isub, 1) := by decide +kernel
theorem dX8_got_28 : decode cX8_got 28 = .ok (.invokestatic 97, 3) := by decide +kernel
theorem dX8_got_31 : decode cX8_got 31 = .ok (.ifCond .eq 12, 3) := by decide +kernel
theorem dX8_got_34 : decode cX8_got 34 = .ok (.aload_n 0, 1) := by decide +kernel
theorem dX8_got_35 : decode cX8_got 35 = .ok (.getfield 63, 3) := by decide +kernel
theorem dX8_got_38 : decode cX8_got 38 = .ok (.iload_n 2, 1) := by decide +kernel
theorem dX8_got_39 : decode cX8_got 39 = .ok (.iaload, 1) := by decide +kernel
theorem dX8_got_40 : decode cX8_got 40 = .ok (.goto 4, 3) := by decide +kernel
theorem dX8_got_43 : decode cX8_got 43 = .ok (.iconst (-1), 1) := by decide +kernel
theorem dX8_got_44 : decode cX8_got 44 = .ok (.ireturn, 1) := by decide +kernel
theorem dX8_key_0 : decode cX8_key 0 = .ok (.aload_n 0, 1) := by decide +kernel
theorem dX8_key_1 : decode cX8_key 1 = .ok (.iconst 1, 1) := by decide +kernel
theorem dX8_key_2 : decode cX8_key 2 = .ok (.putfield 90, 3) := by decide +kernel
theorem dX8_key_5 : decode cX8_key 5 = .ok (.aload_n 0, 1) := by decide +kernel
theorem dX8_key_6 : decode cX8_key 6 = .ok (.iload_n 1, 1) := by decide +kernel
theorem dX8_key_7 : decode cX8_key 7 = .ok (.invokevirtual 235, 3) := by decide +kernel
theorem dX8_key_10 : decode cX8_key 10 = .ok (.ifCond .ne 5, 3) := by decide +kernel
theorem dX8_key_13 : decode cX8_key 13 = .ok (.lconst 0, 1) := by decide +kernel
theorem dX8_key_14 : decode cX8_key 14 = .ok (.lreturn, 1) := by decide +kernel
theorem dX8_key_15 : decode cX8_key 15 = .ok (.aload_n 0, 1) := by decide +kernel
theorem dX8_key_16 : decode cX8_key 16 = .ok (.iload_n 1, 1) := by decide +kernel
theorem dX8_key_17 : decode cX8_key 17 = .ok (.invokevirtual 137, 3) := by decide +kernel
theorem dX8_key_20 : decode cX8_key 20 = .ok (.iload_n 2, 1) := by decide +kernel
theorem dX8_key_21 : decode cX8_key 21 = .ok (.iconst 0, 1) := by decide +kernel
theorem dX8_key_22 : decode cX8_key 22 = .ok (.aload_n 0, 1) := by decide +kernel
theorem dX8_key_23 : decode cX8_key 23 = .ok (.getfield 130, 3) := by decide +kernel
theorem dX8_key_26 : decode cX8_key 26 = .ok (.iconst 1, 1) := by decide +kernel
theorem dX8_key_27 : decode cX8_key 27 = .ok (.isub, 1) := by decide +kernel
theorem dX8_key_28 : decode cX8_key 28 = .ok (.invokestatic 97, 3) := by decide +kernel
theorem dX8_key_31 : decode cX8_key 31 = .ok (.ifCond .ne 5, 3) := by decide +kernel
theorem dX8_key_34 : decode cX8_key 34 = .ok (.lconst 0, 1) := by decide +kernel
theorem dX8_key_35 : decode cX8_key 35 = .ok (.lreturn, 1) := by decide +kernel
theorem dX8_key_36 : decode cX8_key 36 = .ok (.aload_n 0, 1) := by decide +kernel
theorem dX8_key_37 : decode cX8_key 37 = .ok (.iconst 0, 1) := by decide +kernel
theorem dX8_key_38 : decode cX8_key 38 = .ok (.putfield 90, 3) := by decide +kernel
theorem dX8_key_41 : decode cX8_key 41 = .ok (.aload_n 0, 1) := by decide +kernel
theorem dX8_key_42 : decode cX8_key 42 = .ok (.getfield 66, 3) := by decide +kernel
theorem dX8_key_45 : decode cX8_key 45 = .ok (.iload_n 2, 1) := by decide +kernel
theorem dX8_key_46 : decode cX8_key 46 = .ok (.laload, 1) := by decide +kernel
theorem dX8_key_47 : decode cX8_key 47 = .ok (.lreturn, 1) := by decide +kernel
theorem dX8_group_0 : decode cX8_group 0 = .ok (.aload_n 0, 1) := by decide +kernel
theorem dX8_group_1 : decode cX8_group 1 = .ok (.iconst 1, 1) := by decide +kernel
theorem dX8_group_2 : decode cX8_group 2 = .ok (.putfield 90, 3) := by decide +kernel
theorem dX8_group_5 : decode cX8_group 5 = .ok (.aload_n 0, 1) := by decide +kernel
theorem dX8_group_6 : decode cX8_group 6 = .ok (.iload_n 1, 1) := by decide +kernel
theorem dX8_group_7 : decode cX8_group 7 = .ok (.invokevirtual 235, 3) := by decide +kernel
theorem dX8_group_10 : decode cX8_group 10 = .ok (.ifCond .eq 12, 3) := by decide +kernel
theorem dX8_group_13 : decode cX8_group 13 = .ok (.iload_n 3, 1) := by decide +kernel
theorem dX8_group_14 : decode cX8_group 14 = .ok (.iconst 0, 1) := by decide +kernel
theorem dX8_group_15 : decode cX8_group 15 = .ok (.iconst 3, 1) := by decide +kernel
theorem dX8_group_16 : decode cX8_group 16 = .ok (.invokestatic 97, 3) := by decide +kernel
theorem dX8_group_19 : decode cX8_group 19 = .ok (.ifCond .ne 5, 3) := by decide +kernel
theorem dX8_group_22 : decode cX8_group 22 = .ok (.lconst 0, 1) := by decide +kernel
theorem dX8_group_23 : decode cX8_group 23 = .ok (.lreturn, 1) := by decide +kernel
theorem dX8_group_24 : decode cX8_group 24 = .ok (.aload_n 0, 1) := by decide +kernel
theorem dX8_group_25 : decode cX8_group 25 = .ok (.iload_n 1, 1) := by decide +kernel
theorem dX8_group_26 : decode cX8_group 26 = .ok (.invokevirtual 238, 3) := by decide +kernel
theorem dX8_group_29 : decode cX8_group 29 = .ok (.iload_n 2, 1) := by decide +kernel
theorem dX8_group_30 : decode cX8_group 30 = .ok (.iconst 0, 1) := by decide +kernel
theorem dX8_group_31 : decode cX8_group 31 = .ok (.aload_n 0, 1) := by decide +kernel
theorem dX8_group_32 : decode cX8_group 32 = .ok (.getfield 141, 3) := by decide +kernel
theorem dX8_group_35 : decode cX8_group 35 = .ok (.iconst 1, 1) := by decide +kernel
theorem dX8_group_36 : decode cX8_group 36 = .ok (.isub, 1) := by decide +kernel
theorem dX8_group_37 : decode cX8_group 37 = .ok (.invokestatic 97, 3) := by decide +kernel
theorem dX8_group_40 : decode cX8_group 40 = .ok (.ifCond .ne 5, 3) := by decide +kernel
theorem dX8_group_43 : decode cX8_group 43 = .ok (.lconst 0, 1) := by decide +kernel
theorem dX8_group_44 : decode cX8_group 44 = .ok (.lreturn, 1) := by decide +kernel
theorem dX8_group_45 : decode cX8_group 45 = .ok (.aload_n 0, 1) := by decide +kernel
theorem dX8_group_46 : decode cX8_group 46 = .ok (.iconst 0, 1) := by decide +kernel
theorem dX8_group_47 : decode cX8_group 47 = .ok (.putfield 90, 3) := by decide +kernel
theorem dX8_group_50 : decode cX8_group 50 = .ok (.iload_n 3, 1) := by decide +kernel
theorem dX8_group_51 : decode cX8_group 51 = .ok (.ifCond .ne 12, 3) := by decide +kernel
theorem dX8_group_54 : decode cX8_group 54 = .ok (.aload_n 0, 1) := by decide +kernel
theorem dX8_group_55 : decode cX8_group 55 = .ok (.getfield 75, 3) := by decide +kernel
theorem dX8_group_58 : decode cX8_group 58 = .ok (.iload_n 2, 1) := by decide +kernel
theorem dX8_group_59 : decode cX8_group 59 = .ok (.laload, 1) := by decide +kernel
theorem dX8_group_60 : decode cX8_group 60 = .ok (.goto 38, 3) := by decide +kernel
theorem dX8_group_63 : decode cX8_group 63 = .ok (.iload_n 3, 1) := by decide +kernel
theorem dX8_group_64 : decode cX8_group 64 = .ok (.iconst 1, 1) := by decide +kernel
theorem dX8_group_65 : decode cX8_group 65 = .ok (.if_icmp .ne 13, 3) := by decide +kernel
theorem dX8_group_68 : decode cX8_group 68 = .ok (.aload_n 0, 1) := by decide +kernel
theorem dX8_group_69 : decode cX8_group 69 = .ok (.getfield 78, 3) := by decide +kernel
theorem dX8_group_72 : decode cX8_group 72 = .ok (.iload_n 2, 1) := by decide +kernel
theorem dX8_group_73 : decode cX8_group 73 = .ok (.iaload, 1) := by decide +kernel
theorem dX8_group_74 : decode cX8_group 74 = .ok (.i2l, 1) := by decide +kernel
theorem dX8_group_75 : decode cX8_group 75 = .ok (.goto 23, 3) := by decide +kernel
theorem dX8_group_78 : decode cX8_group 78 = .ok (.iload_n 3, 1) := by decide +kernel
theorem dX8_group_79 : decode cX8_group 79 = .ok (.iconst 2, 1) := by decide +kernel
theorem dX8_group_80 : decode cX8_group 80 = .ok (.if_icmp .ne 12, 3) := by decide +kernel
theorem dX8_group_83 : decode cX8_group 83 = .ok (.aload_n 0, 1) := by decide +kernel
theorem dX8_group_84 : decode cX8_group 84 = .ok (.getfield 81, 3) := by decide +kernel
theorem dX8_group_87 : decode cX8_group 87 = .ok (.iload_n 2, 1) := by decide +kernel
theorem dX8_group_88 : decode cX8_group 88 = .ok (.laload, 1) := by decide +kernel
theorem dX8_group_89 : decode cX8_group 89 = .ok (.goto 9, 3) := by decide +kernel
theorem dX8_group_92 : decode cX8_group 92 = .ok (.aload_n 0, 1) := by decide +kernel
theorem dX8_group_93 : decode cX8_group 93 = .ok (.getfield 84, 3) := by decide +kernel
theorem dX8_group_96 : decode cX8_group 96 = .ok (.iload_n 2, 1) := by decide +kernel
theorem dX8_group_97 : decode cX8_group 97 = .ok (.laload, 1) := by decide +kernel
theorem dX8_group_98 : decode cX8_group 98 = .ok (.lreturn, 1) := by decide +kernel
theorem dX8_differ_0 : decode cX8_differ 0 = .ok (.aload_n 0, 1) := by decide +kernel
theorem dX8_differ_1 : decode cX8_differ 1 = .ok (.iconst 0, 1) := by decide +kernel
theorem dX8_differ_2 : decode cX8_differ 2 = .ok (.putfield 90, 3) := by decide +kernel
theorem dX8_differ_5 : decode cX8_differ 5 = .ok (.iload_n 1, 1) := by decide +kernel
theorem dX8_differ_6 : decode cX8_differ 6 = .ok (.iconst 0, 1) := by decide +kernel
theorem dX8_differ_7 : decode cX8_differ 7 = .ok (.aload_n 0, 1) := by decide +kernel
theorem dX8_differ_8 : decode cX8_differ 8 = .ok (.getfield 155, 3) := by decide +kernel
theorem dX8_differ_11 : decode cX8_differ 11 = .ok (.iconst 1, 1) := by decide +kernel
theorem dX8_differ_12 : decode cX8_differ 12 = .ok (.isub, 1) := by decide +kernel
theorem dX8_differ_13 : decode cX8_differ 13 = .ok (.invokestatic 97, 3) := by decide +kernel
theorem dX8_differ_16 : decode cX8_differ 16 = .ok (.ifCond .eq 25, 3) := by decide +kernel
theorem dX8_differ_19 : decode cX8_differ 19 = .ok (.iload_n 2, 1) := by decide +kernel
theorem dX8_differ_20 : decode cX8_differ 20 = .ok (.iconst 0, 1) := by decide +kernel
theorem dX8_differ_21 : decode cX8_differ 21 = .ok (.iconst 2, 1) := by decide +kernel
theorem dX8_differ_22 : decode cX8_differ 22 = .ok (.invokestatic 97, 3) := by decide +kernel
theorem dX8_differ_25 : decode cX8_differ 25 = .ok (.ifCond .eq 16, 3) := by decide +kernel
theorem dX8_differ_28 : decode cX8_differ 28 = .ok (.aload_n 0, 1) := by decide +kernel
theorem dX8_differ_29 : decode cX8_differ 29 = .ok (.getfield 48, 3) := by decide +kernel
theorem dX8_differ_32 : decode cX8_differ 32 = .ok (.iconst 3, 1) := by decide +kernel
theorem dX8_differ_33 : decode cX8_differ 33 = .ok (.iload_n 1, 1) := by decide +kernel
theorem dX8_differ_34 : decode cX8_differ 34 = .ok (.imul, 1) := by decide +kernel
theorem dX8_differ_35 : decode cX8_differ 35 = .ok (.iload_n 2, 1) := by decide +kernel
theorem dX8_differ_36 : decode cX8_differ 36 = .ok (.iadd, 1) := by decide +kernel
theorem dX8_differ_37 : decode cX8_differ 37 = .ok (.iaload, 1) := by decide +kernel
theorem dX8_differ_38 : decode cX8_differ 38 = .ok (.goto 4, 3) := by decide +kernel
theorem dX8_differ_41 : decode cX8_differ 41 = .ok (.iconst (-1), 1) := by decide +kernel
theorem dX8_differ_42 : decode cX8_differ 42 = .ok (.ireturn, 1) := by decide +kernel
theorem dX8_uses_0 : decode cX8_uses 0 = .ok (.aload_n 0, 1) := by decide +kernel
theorem dX8_uses_1 : decode cX8_uses 1 = .ok (.iconst 0, 1) := by decide +kernel
theorem dX8_uses_2 : decode cX8_uses 2 = .ok (.putfield 90, 3) := by decide +kernel
theorem dX8_uses_5 : decode cX8_uses 5 = .ok (.aload_n 0, 1) := by decide +kernel
theorem dX8_uses_6 : decode cX8_uses 6 = .ok (.iload_n 1, 1) := by decide +kernel
theorem dX8_uses_7 : decode cX8_uses 7 = .ok (.invokevirtual 235, 3) := by decide +kernel
theorem dX8_uses_10 : decode cX8_uses 10 = .ok (.ifCond .eq 11, 3) := by decide +kernel
theorem dX8_uses_13 : decode cX8_uses 13 = .ok (.aload_n 0, 1) := by decide +kernel
theorem dX8_uses_14 : decode cX8_uses 14 = .ok (.iload_n 2, 1) := by decide +kernel
theorem dX8_uses_15 : decode cX8_uses 15 = .ok (.invokevirtual 168, 3) := by decide +kernel
theorem dX8_uses_18 : decode cX8_uses 18 = .ok (.ifCond .ne 5, 3) := by decide +kernel
theorem dX8_uses_21 : decode cX8_uses 21 = .ok (.iconst (-1), 1) := by decide +kernel
theorem dX8_uses_22 : decode cX8_uses 22 = .ok (.ireturn, 1) := by decide +kernel
theorem dX8_uses_23 : decode cX8_uses 23 = .ok (.iconst 0, 1) := by decide +kernel
theorem dX8_uses_24 : decode cX8_uses 24 = .ok (.istore_n 3, 1) := by decide +kernel
theorem dX8_uses_25 : decode cX8_uses 25 = .ok (.iconst 0, 1) := by decide +kernel
theorem dX8_uses_26 : decode cX8_uses 26 = .ok (.istore 4, 2) := by decide +kernel
theorem dX8_uses_28 : decode cX8_uses 28 = .ok (.iload 4, 2) := by decide +kernel
theorem dX8_uses_30 : decode cX8_uses 30 = .ok (.aload_n 0, 1) := by decide +kernel
theorem dX8_uses_31 : decode cX8_uses 31 = .ok (.getfield 94, 3) := by decide +kernel
theorem dX8_uses_34 : decode cX8_uses 34 = .ok (.if_icmp .ge 72, 3) := by decide +kernel
theorem dX8_uses_37 : decode cX8_uses 37 = .ok (.aload_n 0, 1) := by decide +kernel
theorem dX8_uses_38 : decode cX8_uses 38 = .ok (.getfield 13, 3) := by decide +kernel
theorem dX8_uses_41 : decode cX8_uses 41 = .ok (.iload 4, 2) := by decide +kernel
theorem dX8_uses_43 : decode cX8_uses 43 = .ok (.baload, 1) := by decide +kernel
theorem dX8_uses_44 : decode cX8_uses 44 = .ok (.ifCond .eq 56, 3) := by decide +kernel
theorem dX8_uses_47 : decode cX8_uses 47 = .ok (.aload_n 0, 1) := by decide +kernel
theorem dX8_uses_48 : decode cX8_uses 48 = .ok (.getfield 17, 3) := by decide +kernel
theorem dX8_uses_51 : decode cX8_uses 51 = .ok (.iload 4, 2) := by decide +kernel
theorem dX8_uses_53 : decode cX8_uses 53 = .ok (.iaload, 1) := by decide +kernel
theorem dX8_uses_54 : decode cX8_uses 54 = .ok (.aload_n 0, 1) := by decide +kernel
theorem dX8_uses_55 : decode cX8_uses 55 = .ok (.getfield 33, 3) := by decide +kernel
theorem dX8_uses_58 : decode cX8_uses 58 = .ok (.iload_n 1, 1) := by decide +kernel
theorem dX8_uses_59 : decode cX8_uses 59 = .ok (.iaload, 1) := by decide +kernel
theorem dX8_uses_60 : decode cX8_uses 60 = .ok (.if_icmp .eq 6, 3) := by decide +kernel
theorem dX8_uses_63 : decode cX8_uses 63 = .ok (.goto 37, 3) := by decide +kernel
theorem dX8_uses_66 : decode cX8_uses 66 = .ok (.aload_n 0, 1) := by decide +kernel
theorem dX8_uses_67 : decode cX8_uses 67 = .ok (.iload_n 1, 1) := by decide +kernel
theorem dX8_uses_68 : decode cX8_uses 68 = .ok (.iload 4, 2) := by decide +kernel
theorem dX8_uses_70 : decode cX8_uses 70 = .ok (.invokevirtual 133, 3) := by decide +kernel
theorem dX8_uses_73 : decode cX8_uses 73 = .ok (.ifCond .eq 10, 3) := by decide +kernel
theorem dX8_uses_76 : decode cX8_uses 76 = .ok (.aload_n 0, 1) := by decide +kernel
theorem dX8_uses_77 : decode cX8_uses 77 = .ok (.getfield 60, 3) := by decide +kernel
theorem dX8_uses_80 : decode cX8_uses 80 = .ok (.iconst 0, 1) := by decide +kernel
theorem dX8_uses_81 : decode cX8_uses 81 = .ok (.lconst 1, 1) := by decide +kernel
theorem dX8_uses_82 : decode cX8_uses 82 = .ok (.lastore, 1) := by decide +kernel
theorem dX8_uses_83 : decode cX8_uses 83 = .ok (.iload_n 3, 1) := by decide +kernel
theorem dX8_uses_84 : decode cX8_uses 84 = .ok (.aload_n 0, 1) := by decide +kernel
theorem dX8_uses_85 : decode cX8_uses 85 = .ok (.getfield 57, 3) := by decide +kernel
theorem dX8_uses_88 : decode cX8_uses 88 = .ok (.iload_n 2, 1) := by decide +kernel
theorem dX8_uses_89 : decode cX8_uses 89 = .ok (.baload, 1) := by decide +kernel
theorem dX8_uses_90 : decode cX8_uses 90 = .ok (.ifCond .eq 7, 3) := by decide +kernel
theorem dX8_uses_93 : decode cX8_uses 93 = .ok (.iconst 1, 1) := by decide +kernel
theorem dX8_uses_94 : decode cX8_uses 94 = .ok (.goto 4, 3) := by decide +kernel
theorem dX8_uses_97 : decode cX8_uses 97 = .ok (.iconst 0, 1) := by decide +kernel
theorem dX8_uses_98 : decode cX8_uses 98 = .ok (.iadd, 1) := by decide +kernel
theorem dX8_uses_99 : decode cX8_uses 99 = .ok (.istore_n 3, 1) := by decide +kernel
theorem dX8_uses_100 : decode cX8_uses 100 = .ok (.iinc 4 1, 3) := by decide +kernel
theorem dX8_uses_103 : decode cX8_uses 103 = .ok (.goto (-75), 3) := by decide +kernel
theorem dX8_uses_106 : decode cX8_uses 106 = .ok (.iload_n 3, 1) := by decide +kernel
theorem dX8_uses_107 : decode cX8_uses 107 = .ok (.ireturn, 1) := by decide +kernel
theorem dX8_look_0 : decode cX8_look 0 = .ok (.aload_n 0, 1) := by decide +kernel
theorem dX8_look_1 : decode cX8_look 1 = .ok (.aload_n 0, 1) := by decide +kernel
theorem dX8_look_2 : decode cX8_look 2 = .ok (.iload_n 1, 1) := by decide +kernel
theorem dX8_look_3 : decode cX8_look 3 = .ok (.invokevirtual 168, 3) := by decide +kernel
theorem dX8_look_6 : decode cX8_look 6 = .ok (.ifCond .eq 34, 3) := by decide +kernel
theorem dX8_look_9 : decode cX8_look 9 = .ok (.iload_n 2, 1) := by decide +kernel
theorem dX8_look_10 : decode cX8_look 10 = .ok (.iconst 0, 1) := by decide +kernel
theorem dX8_look_11 : decode cX8_look 11 = .ok (.iconst 5, 1) := by decide +kernel
theorem dX8_look_12 : decode cX8_look 12 = .ok (.invokestatic 97, 3) := by decide +kernel
theorem dX8_look_15 : decode cX8_look 15 = .ok (.ifCond .ne 21, 3) := by decide +kernel
theorem dX8_look_18 : decode cX8_look 18 = .ok (.iload_n 2, 1) := by decide +kernel
theorem dX8_look_19 : decode cX8_look 19 = .ok (.bipush 10, 2) := by decide +kernel
theorem dX8_look_21 : decode cX8_look 21 = .ok (.bipush 9, 2) := by decide +kernel
theorem dX8_look_23 : decode cX8_look 23 = .ok (.aload_n 0, 1) := by decide +kernel
theorem dX8_look_24 : decode cX8_look 24 = .ok (.getfield 27, 3) := by decide +kernel
theorem dX8_look_27 : decode cX8_look 27 = .ok (.iload_n 1, 1) := by decide +kernel
theorem dX8_look_28 : decode cX8_look 28 = .ok (.iaload, 1) := by decide +kernel
theorem dX8_look_29 : decode cX8_look 29 = .ok (.iadd, 1) := by decide +kernel
theorem dX8_look_30 : decode cX8_look 30 = .ok (.invokestatic 97, 3) := by decide +kernel
theorem dX8_look_33 : decode cX8_look 33 = .ok (.ifCond .eq 7, 3) := by decide +kernel
theorem dX8_look_36 : decode cX8_look 36 = .ok (.iconst 0, 1) := by decide +kernel
theorem dX8_look_37 : decode cX8_look 37 = .ok (.goto 4, 3) := by decide +kernel
theorem dX8_look_40 : decode cX8_look 40 = .ok (.iconst 1, 1) := by decide +kernel
theorem dX8_look_41 : decode cX8_look 41 = .ok (.putfield 90, 3) := by decide +kernel
theorem dX8_look_44 : decode cX8_look 44 = .ok (.aload_n 0, 1) := by decide +kernel
theorem dX8_look_45 : decode cX8_look 45 = .ok (.getfield 90, 3) := by decide +kernel
theorem dX8_look_48 : decode cX8_look 48 = .ok (.ifCond .eq 5, 3) := by decide +kernel
theorem dX8_look_51 : decode cX8_look 51 = .ok (.lconst 0, 1) := by decide +kernel
theorem dX8_look_52 : decode cX8_look 52 = .ok (.lreturn, 1) := by decide +kernel
theorem dX8_look_53 : decode cX8_look 53 = .ok (.iload_n 2, 1) := by decide +kernel
theorem dX8_look_54 : decode cX8_look 54 = .ok (.iconst 3, 1) := by decide +kernel
theorem dX8_look_55 : decode cX8_look 55 = .ok (.if_icmp .ge 14, 3) := by decide +kernel
theorem dX8_look_58 : decode cX8_look 58 = .ok (.aload_n 0, 1) := by decide +kernel
theorem dX8_look_59 : decode cX8_look 59 = .ok (.getfield 20, 3) := by decide +kernel
theorem dX8_look_62 : decode cX8_look 62 = .ok (.iconst 3, 1) := by decide +kernel
theorem dX8_look_63 : decode cX8_look 63 = .ok (.iload_n 1, 1) := by decide +kernel
theorem dX8_look_64 : decode cX8_look 64 = .ok (.imul, 1) := by decide +kernel
theorem dX8_look_65 : decode cX8_look 65 = .ok (.iload_n 2, 1) := by decide +kernel
theorem dX8_look_66 : decode cX8_look 66 = .ok (.iadd, 1) := by decide +kernel
theorem dX8_look_67 : decode cX8_look 67 = .ok (.laload, 1) := by decide +kernel
theorem dX8_look_68 : decode cX8_look 68 = .ok (.lreturn, 1) := by decide +kernel
theorem dX8_look_69 : decode cX8_look 69 = .ok (.iload_n 2, 1) := by decide +kernel
theorem dX8_look_70 : decode cX8_look 70 = .ok (.iconst 5, 1) := by decide +kernel
theorem dX8_look_71 : decode cX8_look 71 = .ok (.if_icmp .le 18, 3) := by decide +kernel
theorem dX8_look_74 : decode cX8_look 74 = .ok (.aload_n 0, 1) := by decide +kernel
theorem dX8_look_75 : decode cX8_look 75 = .ok (.getfield 30, 3) := by decide +kernel
theorem dX8_look_78 : decode cX8_look 78 = .ok (.bipush 8, 2) := by decide +kernel
theorem dX8_look_80 : decode cX8_look 80 = .ok (.iload_n 1, 1) := by decide +kernel
theorem dX8_look_81 : decode cX8_look 81 = .ok (.imul, 1) := by decide +kernel
theorem dX8_look_82 : decode cX8_look 82 = .ok (.iload_n 2, 1) := by decide +kernel
theorem dX8_look_83 : decode cX8_look 83 = .ok (.iadd, 1) := by decide +kernel
theorem dX8_look_84 : decode cX8_look 84 = .ok (.bipush 10, 2) := by decide +kernel
theorem dX8_look_86 : decode cX8_look 86 = .ok (.isub, 1) := by decide +kernel
theorem dX8_look_87 : decode cX8_look 87 = .ok (.laload, 1) := by decide +kernel
theorem dX8_look_88 : decode cX8_look 88 = .ok (.lreturn, 1) := by decide +kernel
theorem dX8_look_89 : decode cX8_look 89 = .ok (.iload_n 2, 1) := by decide +kernel
theorem dX8_look_90 : decode cX8_look 90 = .ok (.iconst 3, 1) := by decide +kernel
theorem dX8_look_91 : decode cX8_look 91 = .ok (.if_icmp .ne 43, 3) := by decide +kernel
theorem dX8_look_94 : decode cX8_look 94 = .ok (.aload_n 0, 1) := by decide +kernel
theorem dX8_look_95 : decode cX8_look 95 = .ok (.getfield 24, 3) := by decide +kernel
theorem dX8_look_98 : decode cX8_look 98 = .ok (.iload_n 1, 1) := by decide +kernel
theorem dX8_look_99 : decode cX8_look 99 = .ok (.iaload, 1) := by decide +kernel
theorem dX8_look_100 : decode cX8_look 100 = .ok (.iconst (-1), 1) := by decide +kernel
theorem dX8_look_101 : decode cX8_look 101 = .ok (.if_icmp .eq 27, 3) := by decide +kernel
theorem dX8_look_104 : decode cX8_look 104 = .ok (.aload_n 0, 1) := by decide +kernel
theorem dX8_look_105 : decode cX8_look 105 = .ok (.getfield 13, 3) := by decide +kernel
theorem dX8_look_108 : decode cX8_look 108 = .ok (.aload_n 0, 1) := by decide +kernel
theorem dX8_look_109 : decode cX8_look 109 = .ok (.getfield 24, 3) := by decide +kernel
theorem dX8_look_112 : decode cX8_look 112 = .ok (.iload_n 1, 1) := by decide +kernel
theorem dX8_look_113 : decode cX8_look 113 = .ok (.iaload, 1) := by decide +kernel
theorem dX8_look_114 : decode cX8_look 114 = .ok (.baload, 1) := by decide +kernel
theorem dX8_look_115 : decode cX8_look 115 = .ok (.ifCond .eq 13, 3) := by decide +kernel
theorem dX8_look_118 : decode cX8_look 118 = .ok (.aload_n 0, 1) := by decide +kernel
theorem dX8_look_119 : decode cX8_look 119 = .ok (.getfield 24, 3) := by decide +kernel
theorem dX8_look_122 : decode cX8_look 122 = .ok (.iload_n 1, 1) := by decide +kernel
theorem dX8_look_123 : decode cX8_look 123 = .ok (.iaload, 1) := by decide +kernel
theorem dX8_look_124 : decode cX8_look 124 = .ok (.i2l, 1) := by decide +kernel
theorem dX8_look_125 : decode cX8_look 125 = .ok (.goto 31, 3) := by decide +kernel
theorem dX8_look_128 : decode cX8_look 128 = .ok (.ldc2_w 120, 3) := by decide +kernel
theorem dX8_look_131 : decode cX8_look 131 = .ok (.goto 25, 3) := by decide +kernel
theorem dX8_look_134 : decode cX8_look 134 = .ok (.iload_n 2, 1) := by decide +kernel
theorem dX8_look_135 : decode cX8_look 135 = .ok (.iconst 4, 1) := by decide +kernel
theorem dX8_look_136 : decode cX8_look 136 = .ok (.if_icmp .ne 13, 3) := by decide +kernel
theorem dX8_look_139 : decode cX8_look 139 = .ok (.aload_n 0, 1) := by decide +kernel
theorem dX8_look_140 : decode cX8_look 140 = .ok (.getfield 27, 3) := by decide +kernel
theorem dX8_look_143 : decode cX8_look 143 = .ok (.iload_n 1, 1) := by decide +kernel
theorem dX8_look_144 : decode cX8_look 144 = .ok (.iaload, 1) := by decide +kernel
theorem dX8_look_145 : decode cX8_look 145 = .ok (.i2l, 1) := by decide +kernel
theorem dX8_look_146 : decode cX8_look 146 = .ok (.goto 10, 3) := by decide +kernel
theorem dX8_look_149 : decode cX8_look 149 = .ok (.aload_n 0, 1) := by decide +kernel
theorem dX8_look_150 : decode cX8_look 150 = .ok (.getfield 17, 3) := by decide +kernel
theorem dX8_look_153 : decode cX8_look 153 = .ok (.iload_n 1, 1) := by decide +kernel
theorem dX8_look_154 : decode cX8_look 154 = .ok (.iaload, 1) := by decide +kernel
theorem dX8_look_155 : decode cX8_look 155 = .ok (.i2l, 1) := by decide +kernel
theorem dX8_look_156 : decode cX8_look 156 = .ok (.lreturn, 1) := by decide +kernel
