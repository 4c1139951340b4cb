theorem dX6_init_0 : decode cX6_init 0 = .ok (.aload_n 0, 1) := by decide +kernel
theorem dX6_init_1 : decode cX6_init 1 = .ok (.invokespecial 3, 3) := by decide +kernel
theorem dX6_init_4 : decode cX6_init 4 = .ok (.aload_n 0, 1) := by decide +kernel
theorem dX6_init_5 : decode cX6_init 5 = .ok (.iconst 2, 1) := by decide +kernel
theorem dX6_init_6 : decode cX6_init 6 = .ok (.putfield 9, 3) := by decide +kernel
theorem dX6_init_9 : decode cX6_init 9 = .ok (.aload_n 0, 1) := by decide +kernel
theorem dX6_init_10 : decode cX6_init 10 = .ok (.bipush 48, 2) := by decide +kernel
theorem dX6_init_12 : decode cX6_init 12 = .ok (.newarray .int, 2) := by decide +kernel
theorem dX6_init_14 : decode cX6_init 14 = .ok (.putfield 15, 3) := by decide +kernel
theorem dX6_init_17 : decode cX6_init 17 = .ok (.aload_n 0, 1) := by decide +kernel
theorem dX6_init_18 : decode cX6_init 18 = .ok (.bipush 6, 2) := by decide +kernel
theorem dX6_init_20 : decode cX6_init 20 = .ok (.newarray .int, 2) := by decide +kernel
theorem dX6_init_22 : decode cX6_init 22 = .ok (.putfield 19, 3) := by decide +kernel
theorem dX6_init_25 : decode cX6_init 25 = .ok (.aload_n 0, 1) := by decide +kernel
theorem dX6_init_26 : decode cX6_init 26 = .ok (.bipush 48, 2) := by decide +kernel
theorem dX6_init_28 : decode cX6_init 28 = .ok (.newarray .int, 2) := by decide +kernel
theorem dX6_init_30 : decode cX6_init 30 = .ok (.putfield 22, 3) := by decide +kernel
theorem dX6_init_33 : decode cX6_init 33 = .ok (.aload_n 0, 1) := by decide +kernel
theorem dX6_init_34 : decode cX6_init 34 = .ok (.bipush 6, 2) := by decide +kernel
theorem dX6_init_36 : decode cX6_init 36 = .ok (.newarray .int, 2) := by decide +kernel
theorem dX6_init_38 : decode cX6_init 38 = .ok (.putfield 25, 3) := by decide +kernel
theorem dX6_init_41 : decode cX6_init 41 = .ok (.aload_n 0, 1) := by decide +kernel
theorem dX6_init_42 : decode cX6_init 42 = .ok (.bipush 32, 2) := by decide +kernel
theorem dX6_init_44 : decode cX6_init 44 = .ok (.newarray .int, 2) := by decide +kernel
theorem dX6_init_46 : decode cX6_init 46 = .ok (.putfield 28, 3) := by decide +kernel
theorem dX6_init_49 : decode cX6_init 49 = .ok (.aload_n 0, 1) := by decide +kernel
theorem dX6_init_50 : decode cX6_init 50 = .ok (.iconst 4, 1) := by decide +kernel
theorem dX6_init_51 : decode cX6_init 51 = .ok (.newarray .int, 2) := by decide +kernel
theorem dX6_init_53 : decode cX6_init 53 = .ok (.putfield 31, 3) := by decide +kernel
theorem dX6_init_56 : decode cX6_init 56 = .ok (.aload_n 0, 1) := by decide +kernel
theorem dX6_init_57 : decode cX6_init 57 = .ok (.bipush 20, 2) := by decide +kernel
theorem dX6_init_59 : decode cX6_init 59 = .ok (.newarray .int, 2) := by decide +kernel
theorem dX6_init_61 : decode cX6_init 61 = .ok (.putfield 34, 3) := by decide +kernel
theorem dX6_init_64 : decode cX6_init 64 = .ok (.aload_n 0, 1) := by decide +kernel
theorem dX6_init_65 : decode cX6_init 65 = .ok (.bipush 8, 2) := by decide +kernel
theorem dX6_init_67 : decode cX6_init 67 = .ok (.newarray .int, 2) := by decide +kernel
theorem dX6_init_69 : decode cX6_init 69 = .ok (.putfield 37, 3) := by decide +kernel
theorem dX6_init_72 : decode cX6_init 72 = .ok (.aload_n 0, 1) := by decide +kernel
theorem dX6_init_73 : decode cX6_init 73 = .ok (.iconst 4, 1) := by decide +kernel
theorem dX6_init_74 : decode cX6_init 74 = .ok (.newarray .int, 2) := by decide +kernel
theorem dX6_init_76 : decode cX6_init 76 = .ok (.putfield 40, 3) := by decide +kernel
theorem dX6_init_79 : decode cX6_init 79 = .ok (.aload_n 0, 1) := by decide +kernel
theorem dX6_init_80 : decode cX6_init 80 = .ok (.iconst 4, 1) := by decide +kernel
theorem dX6_init_81 : decode cX6_init 81 = .ok (.newarray .int, 2) := by decide +kernel
theorem dX6_init_83 : decode cX6_init 83 = .ok (.putfield 43, 3) := by decide +kernel
theorem dX6_init_86 : decode cX6_init 86 = .ok (.aload_n 0, 1) := by decide +kernel
theorem dX6_init_87 : decode cX6_init 87 = .ok (.iconst 4, 1) := by decide +kernel
theorem dX6_init_88 : decode cX6_init 88 = .ok (.newarray .int, 2) := by decide +kernel
theorem dX6_init_90 : decode cX6_init 90 = .ok (.putfield 46, 3) := by decide +kernel
theorem dX6_init_93 : decode cX6_init 93 = .ok (.aload_n 0, 1) := by decide +kernel
theorem dX6_init_94 : decode cX6_init 94 = .ok (.iconst 4, 1) := by decide +kernel
theorem dX6_init_95 : decode cX6_init 95 = .ok (.newarray .int, 2) := by decide +kernel
theorem dX6_init_97 : decode cX6_init 97 = .ok (.putfield 49, 3) := by decide +kernel
theorem dX6_init_100 : decode cX6_init 100 = .ok (.aload_n 0, 1) := by decide +kernel
theorem dX6_init_101 : decode cX6_init 101 = .ok (.iconst 4, 1) := by decide +kernel
theorem dX6_init_102 : decode cX6_init 102 = .ok (.newarray .int, 2) := by decide +kernel
theorem dX6_init_104 : decode cX6_init 104 = .ok (.putfield 52, 3) := by decide +kernel
theorem dX6_init_107 : decode cX6_init 107 = .ok (.aload_n 0, 1) := by decide +kernel
theorem dX6_init_108 : decode cX6_init 108 = .ok (.bipush 8, 2) := by decide +kernel
theorem dX6_init_110 : decode cX6_init 110 = .ok (.newarray .int, 2) := by decide +kernel
theorem dX6_init_112 : decode cX6_init 112 = .ok (.putfield 55, 3) := by decide +kernel
theorem dX6_init_115 : decode cX6_init 115 = .ok (.aload_n 0, 1) := by decide +kernel
theorem dX6_init_116 : decode cX6_init 116 = .ok (.bipush 8, 2) := by decide +kernel
theorem dX6_init_118 : decode cX6_init 118 = .ok (.newarray .int, 2) := by decide +kernel
theorem dX6_init_120 : decode cX6_init 120 = .ok (.putfield 58, 3) := by decide +kernel
theorem dX6_init_123 : decode cX6_init 123 = .ok (.aload_n 0, 1) := by decide +kernel
theorem dX6_init_124 : decode cX6_init 124 = .ok (.bipush 8, 2) := by decide +kernel
theorem dX6_init_126 : decode cX6_init 126 = .ok (.newarray .int, 2) := by decide +kernel
theorem dX6_init_128 : decode cX6_init 128 = .ok (.putfield 61, 3) := by decide +kernel
theorem dX6_init_131 : decode cX6_init 131 = .ok (.aload_n 0, 1) := by decide +kernel
theorem dX6_init_132 : decode cX6_init 132 = .ok (.iconst 4, 1) := by decide +kernel
theorem dX6_init_133 : decode cX6_init 133 = .ok (.newarray .int, 2) := by decide +kernel
theorem dX6_init_135 : decode cX6_init 135 = .ok (.dup, 1) := by decide +kernel
theorem dX6_init_136 : decode cX6_init 136 = .ok (.iconst 0, 1) := by decide +kernel
theorem dX6_init_137 : decode cX6_init 137 = .ok (.iconst (-1), 1) := by decide +kernel
theorem dX6_init_138 : decode cX6_init 138 = .ok (.iastore, 1) := by decide +kernel
theorem dX6_init_139 : decode cX6_init 139 = .ok (.dup, 1) := by decide +kernel
theorem dX6_init_140 : decode cX6_init 140 = .ok (.iconst 1, 1) := by decide +kernel
theorem dX6_init_141 : decode cX6_init 141 = .ok (.iconst (-1), 1) := by decide +kernel
theorem dX6_init_142 : decode cX6_init 142 = .ok (.iastore, 1) := by decide +kernel
theorem dX6_init_143 : decode cX6_init 143 = .ok (.dup, 1) := by decide +kernel
theorem dX6_init_144 : decode cX6_init 144 = .ok (.iconst 2, 1) := by decide +kernel
theorem dX6_init_145 : decode cX6_init 145 = .ok (.iconst (-1), 1) := by decide +kernel
theorem dX6_init_146 : decode cX6_init 146 = .ok (.iastore, 1) := by decide +kernel
theorem dX6_init_147 : decode cX6_init 147 = .ok (.dup, 1) := by decide +kernel
theorem dX6_init_148 : decode cX6_init 148 = .ok (.iconst 3, 1) := by decide +kernel
theorem dX6_init_149 : decode cX6_init 149 = .ok (.iconst (-1), 1) := by decide +kernel
theorem dX6_init_150 : decode cX6_init 150 = .ok (.iastore, 1) := by decide +kernel
theorem dX6_init_151 : decode cX6_init 151 = .ok (.putfield 64, 3) := by decide +kernel
theorem dX6_init_154 : decode cX6_init 154 = .ok (.aload_n 0, 1) := by decide +kernel
theorem dX6_init_155 : decode cX6_init 155 = .ok (.iconst 4, 1) := by decide +kernel
theorem dX6_init_156 : decode cX6_init 156 = .ok (.newarray .int, 2) := by decide +kernel
theorem dX6_init_158 : decode cX6_init 158 = .ok (.putfield 67, 3) := by decide +kernel
theorem dX6_init_161 : decode cX6_init 161 = .ok (.aload_n 0, 1) := by decide +kernel
theorem dX6_init_162 : decode cX6_init 162 = .ok (.sipush 160, 3) := by decide +kernel
theorem dX6_init_165 : decode cX6_init 165 = .ok (.newarray .long, 2) := by decide +kernel
theorem dX6_init_167 : decode cX6_init 167 = .ok (.putfield 70, 3) := by decide +kernel
theorem dX6_init_170 : decode cX6_init 170 = .ok (.aload_n 0, 1) := by decide +kernel
theorem dX6_init_171 : decode cX6_init 171 = .ok (.bipush 40, 2) := by decide +kernel
theorem dX6_init_173 : decode cX6_init 173 = .ok (.newarray .long, 2) := by decide +kernel
theorem dX6_init_175 : decode cX6_init 175 = .ok (.putfield 74, 3) := by decide +kernel
theorem dX6_init_178 : decode cX6_init 178 = .ok (.aload_n 0, 1) := by decide +kernel
theorem dX6_init_179 : decode cX6_init 179 = .ok (.bipush 48, 2) := by decide +kernel
theorem dX6_init_181 : decode cX6_init 181 = .ok (.newarray .int, 2) := by decide +kernel
theorem dX6_init_183 : decode cX6_init 183 = .ok (.putfield 77, 3) := by decide +kernel
theorem dX6_init_186 : decode cX6_init 186 = .ok (.aload_n 0, 1) := by decide +kernel
theorem dX6_init_187 : decode cX6_init 187 = .ok (.bipush 6, 2) := by decide +kernel
theorem dX6_init_189 : decode cX6_init 189 = .ok (.newarray .int, 2) := by decide +kernel
theorem dX6_init_191 : decode cX6_init 191 = .ok (.putfield 80, 3) := by decide +kernel
theorem dX6_init_194 : decode cX6_init 194 = .ok (.aload_n 0, 1) := by decide +kernel
theorem dX6_init_195 : decode cX6_init 195 = .ok (.bipush 48, 2) := by decide +kernel
theorem dX6_init_197 : decode cX6_init 197 = .ok (.newarray .int, 2) := by decide +kernel
theorem dX6_init_199 : decode cX6_init 199 = .ok (.putfield 83, 3) := by decide +kernel
theorem dX6_init_202 : decode cX6_init 202 = .ok (.aload_n 0, 1) := by decide +kernel
theorem dX6_init_203 : decode cX6_init 203 = .ok (.bipush 6, 2) := by decide +kernel
theorem dX6_init_205 : decode cX6_init 205 = .ok (.newarray .int, 2) := by decide +kernel
theorem dX6_init_207 : decode cX6_init 207 = .ok (.putfield 86, 3) := by decide +kernel
theorem dX6_init_210 : decode cX6_init 210 = .ok (.aload_n 0, 1) := by decide +kernel
theorem dX6_init_211 : decode cX6_init 211 = .ok (.bipush 32, 2) := by decide +kernel
theorem dX6_init_213 : decode cX6_init 213 = .ok (.newarray .int, 2) := by decide +kernel
theorem dX6_init_215 : decode cX6_init 215 = .ok (.putfield 89, 3) := by decide +kernel
theorem dX6_init_218 : decode cX6_init 218 = .ok (.aload_n 0, 1) := by decide +kernel
theorem dX6_init_219 : decode cX6_init 219 = .ok (.iconst 4, 1) := by decide +kernel
theorem dX6_init_220 : decode cX6_init 220 = .ok (.newarray .int, 2) := by decide +kernel
theorem dX6_init_222 : decode cX6_init 222 = .ok (.putfield 92, 3) := by decide +kernel
theorem dX6_init_225 : decode cX6_init 225 = .ok (.aload_n 0, 1) := by decide +kernel
theorem dX6_init_226 : decode cX6_init 226 = .ok (.invokevirtual 95, 3) := by decide +kernel
theorem dX6_init_229 : decode cX6_init 229 = .ok (.return_, 1) := by decide +kernel
theorem dX6_clear_0 : decode cX6_clear 0 = .ok (.iconst 0, 1) := by decide +kernel
theorem dX6_clear_1 : decode cX6_clear 1 = .ok (.istore_n 1, 1) := by decide +kernel
theorem dX6_clear_2 : decode cX6_clear 2 = .ok (.iload_n 1, 1) := by decide +kernel
theorem dX6_clear_3 : decode cX6_clear 3 = .ok (.bipush 6, 2) := by decide +kernel
theorem dX6_clear_5 : decode cX6_clear 5 = .ok (.if_icmp .ge 27, 3) := by decide +kernel
theorem dX6_clear_8 : decode cX6_clear 8 = .ok (.aload_n 0, 1) := by decide +kernel
theorem dX6_clear_9 : decode cX6_clear 9 = .ok (.getfield 15, 3) := by decide +kernel
theorem dX6_clear_12 : decode cX6_clear 12 = .ok (.bipush 8, 2) := by decide +kernel
theorem dX6_clear_14 : decode cX6_clear 14 = .ok (.iload_n 1, 1) := by decide +kernel
theorem dX6_clear_15 : decode cX6_clear 15 = .ok (.imul, 1) := by decide +kernel
theorem dX6_clear_16 : decode cX6_clear 16 = .ok (.bipush 10, 2) := by decide +kernel
theorem dX6_clear_18 : decode cX6_clear 18 = .ok (.iastore, 1) := by decide +kernel
theorem dX6_clear_19 : decode cX6_clear 19 = .ok (.aload_n 0, 1) := by decide +kernel
theorem dX6_clear_20 : decode cX6_clear 20 = .ok (.getfield 19, 3) := by decide +kernel
theorem dX6_clear_23 : decode cX6_clear 23 = .ok (.iload_n 1, 1) := by decide +kernel
theorem dX6_clear_24 : decode cX6_clear 24 = .ok (.iconst 1, 1) := by decide +kernel
theorem dX6_clear_25 : decode cX6_clear 25 = .ok (.iastore, 1) := by decide +kernel
theorem dX6_clear_26 : decode cX6_clear 26 = .ok (.iinc 1 1, 3) := by decide +kernel
theorem dX6_clear_29 : decode cX6_clear 29 = .ok (.goto (-27), 3) := by decide +kernel
theorem dX6_clear_32 : decode cX6_clear 32 = .ok (.iconst 0, 1) := by decide +kernel
theorem dX6_clear_33 : decode cX6_clear 33 = .ok (.istore_n 1, 1) := by decide +kernel
theorem dX6_clear_34 : decode cX6_clear 34 = .ok (.iload_n 1, 1) := by decide +kernel
theorem dX6_clear_35 : decode cX6_clear 35 = .ok (.iconst 4, 1) := by decide +kernel
theorem dX6_clear_36 : decode cX6_clear 36 = .ok (.if_icmp .ge 26, 3) := by decide +kernel
theorem dX6_clear_39 : decode cX6_clear 39 = .ok (.aload_n 0, 1) := by decide +kernel
theorem dX6_clear_40 : decode cX6_clear 40 = .ok (.getfield 28, 3) := by decide +kernel
theorem dX6_clear_43 : decode cX6_clear 43 = .ok (.bipush 8, 2) := by decide +kernel
theorem dX6_clear_45 : decode cX6_clear 45 = .ok (.iload_n 1, 1) := by decide +kernel
theorem dX6_clear_46 : decode cX6_clear 46 = .ok (.imul, 1) := by decide +kernel
theorem dX6_clear_47 : decode cX6_clear 47 = .ok (.iconst 0, 1) := by decide +kernel
theorem dX6_clear_48 : decode cX6_clear 48 = .ok (.iastore, 1) := by decide +kernel
theorem dX6_clear_49 : decode cX6_clear 49 = .ok (.aload_n 0, 1) := by decide +kernel
theorem dX6_clear_50 : decode cX6_clear 50 = .ok (.getfield 31, 3) := by decide +kernel
theorem dX6_clear_53 : decode cX6_clear 53 = .ok (.iload_n 1, 1) := by decide +kernel
theorem dX6_clear_54 : decode cX6_clear 54 = .ok (.iconst 1, 1) := by decide +kernel
theorem dX6_clear_55 : decode cX6_clear 55 = .ok (.iastore, 1) := by decide +kernel
theorem dX6_clear_56 : decode cX6_clear 56 = .ok (.iinc 1 1, 3) := by decide +kernel
theorem dX6_clear_59 : decode cX6_clear 59 = .ok (.goto (-25), 3) := by decide +kernel
theorem dX6_clear_62 : decode cX6_clear 62 = .ok (.aload_n 0, 1) := by decide +kernel
theorem dX6_clear_63 : decode cX6_clear 63 = .ok (.iconst 0, 1) := by decide +kernel
theorem dX6_clear_64 : decode cX6_clear 64 = .ok (.putfield 98, 3) := by decide +kernel
theorem dX6_clear_67 : decode cX6_clear 67 = .ok (.return_, 1) := by decide +kernel
theorem dX6_in_0 : decode cX6_in 0 = .ok (.iload_n 0, 1) := by decide +kernel
theorem dX6_in_1 : decode cX6_in 1 = .ok (.iload_n 1, 1) := by decide +kernel
theorem dX6_in_2 : decode cX6_in 2 = .ok (.if_icmp .lt 12, 3) := by decide +kernel
theorem dX6_in_5 : decode cX6_in 5 = .ok (.iload_n 0, 1) := by decide +kernel
theorem dX6_in_6 : decode cX6_in 6 = .ok (.iload_n 2, 1) := by decide +kernel
theorem dX6_in_7 : decode cX6_in 7 = .ok (.if_icmp .gt 7, 3) := by decide +kernel
theorem dX6_in_10 : decode cX6_in 10 = .ok (.iconst 1, 1) := by decide +kernel
theorem dX6_in_11 : decode cX6_in 11 = .ok (.goto 4, 3) := by decide +kernel
theorem dX6_in_14 : decode cX6_in 14 = .ok (.iconst 0, 1) := by decide +kernel
theorem dX6_in_15 : decode cX6_in 15 = .ok (.ireturn, 1) := by decide +kernel
theorem dX6_isRegister_0 : decode cX6_isRegister 0 = .ok (.iload_n 0, 1) := by decide +kernel
theorem dX6_isRegister_1 : decode cX6_isRegister 1 = .ok (.iconst 0, 1) := by decide +kernel
theorem dX6_isRegister_2 : decode cX6_isRegister 2 = .ok (.iconst 5, 1) := by decide +kernel
theorem dX6_isRegister_3 : decode cX6_isRegister 3 = .ok (.invokestatic 101, 3) := by decide +kernel
theorem dX6_isRegister_6 : decode cX6_isRegister 6 = .ok (.ireturn, 1) := by decide +kernel
theorem dX6_isMode_0 : decode cX6_isMode 0 = .ok (.iload_n 0, 1) := by decide +kernel
theorem dX6_isMode_1 : decode cX6_isMode 1 = .ok (.iconst 0, 1) := by decide +kernel
theorem dX6_isMode_2 : decode cX6_isMode 2 = .ok (.iconst 1, 1) := by decide +kernel
theorem dX6_isMode_3 : decode cX6_isMode 3 = .ok (.invokestatic 101, 3) := by decide +kernel
theorem dX6_isMode_6 : decode cX6_isMode 6 = .ok (.ireturn, 1) := by decide +kernel
theorem dX6_reset_0 : decode cX6_reset 0 = .ok (.iload_n 1, 1) := by decide +kernel
theorem dX6_reset_1 : decode cX6_reset 1 = .ok (.iconst 1, 1) := by decide +kernel
theorem dX6_reset_2 : decode cX6_reset 2 = .ok (.iconst 3, 1) := by decide +kernel
theorem dX6_reset_3 : decode cX6_reset 3 = .ok (.invokestatic 101, 3) := by decide +kernel
theorem dX6_reset_6 : decode cX6_reset 6 = .ok (.ifCond .ne 5, 3) := by decide +kernel
theorem dX6_reset_9 : decode cX6_reset 9 = .ok (.iconst (-1), 1) := by decide +kernel
theorem dX6_reset_10 : decode cX6_reset 10 = .ok (.ireturn, 1) := by decide +kernel
theorem dX6_reset_11 : decode cX6_reset 11 = .ok (.aload_n 0, 1) := by decide +kernel
theorem dX6_reset_12 : decode cX6_reset 12 = .ok (.getfield 9, 3) := by decide +kernel
theorem dX6_reset_15 : decode cX6_reset 15 = .ok (.istore_n 2, 1) := by decide +kernel
theorem dX6_reset_16 : decode cX6_reset 16 = .ok (.aload_n 0, 1) := by decide +kernel
theorem dX6_reset_17 : decode cX6_reset 17 = .ok (.iload_n 1, 1) := by decide +kernel
theorem dX6_reset_18 : decode cX6_reset 18 = .ok (.putfield 9, 3) := by decide +kernel
theorem dX6_reset_21 : decode cX6_reset 21 = .ok (.aload_n 0, 1) := by decide +kernel
theorem dX6_reset_22 : decode cX6_reset 22 = .ok (.invokevirtual 95, 3) := by decide +kernel
theorem dX6_reset_25 : decode cX6_reset 25 = .ok (.iload_n 2, 1) := by decide +kernel
theorem dX6_reset_26 : decode cX6_reset 26 = .ok (.ireturn, 1) := by decide +kernel
theorem dX6_letters_0 : decode cX6_letters 0 = .ok (.aload_n 0, 1) := by decide +kernel
theorem dX6_letters_1 : decode cX6_letters 1 = .ok (.getfield 9, 3) := by decide +kernel
theorem dX6_letters_4 : decode cX6_letters 4 = .ok (.ireturn, 1) := by decide +kernel
theorem dX6_append_0 : decode cX6_append 0 = .ok (.iload_n 1, 1) := by decide +kernel
theorem dX6_append_1 : decode cX6_append 1 = .ok (.iconst 0, 1) := by decide +kernel
theorem dX6_append_2 : decode cX6_append 2 = .ok (.bipush 127, 2) := by decide +kernel
theorem dX6_append_4 : decode cX6_append 4 = .ok (.invokestatic 101, 3) := by decide +kernel
theorem dX6_append_7 : decode cX6_append 7 = .ok (.ifCond .eq 13, 3) := by decide +kernel
theorem dX6_append_10 : decode cX6_append 10 = .ok (.iload_n 2, 1) := by decide +kernel
theorem dX6_append_11 : decode cX6_append 11 = .ok (.iconst 1, 1) := by decide +kernel
theorem dX6_append_12 : decode cX6_append 12 = .ok (.bipush 20, 2) := by decide +kernel
theorem dX6_append_14 : decode cX6_append 14 = .ok (.invokestatic 101, 3) := by decide +kernel
theorem dX6_append_17 : decode cX6_append 17 = .ok (.ifCond .ne 5, 3) := by decide +kernel
theorem dX6_append_20 : decode cX6_append 20 = .ok (.iconst (-1), 1) := by decide +kernel
theorem dX6_append_21 : decode cX6_append 21 = .ok (.ireturn, 1) := by decide +kernel
theorem dX6_append_22 : decode cX6_append 22 = .ok (.aload_n 0, 1) := by decide +kernel
theorem dX6_append_23 : decode cX6_append 23 = .ok (.getfield 105, 3) := by decide +kernel
theorem dX6_append_26 : decode cX6_append 26 = .ok (.iload_n 2, 1) := by decide +kernel
theorem dX6_append_27 : decode cX6_append 27 = .ok (.iadd, 1) := by decide +kernel
theorem dX6_append_28 : decode cX6_append 28 = .ok (.bipush 20, 2) := by decide +kernel
theorem dX6_append_30 : decode cX6_append 30 = .ok (.if_icmp .le 6, 3) := by decide +kernel
theorem dX6_append_33 : decode cX6_append 33 = .ok (.bipush (-4), 2) := by decide +kernel
theorem dX6_append_35 : decode cX6_append 35 = .ok (.ireturn, 1) := by decide +kernel
theorem dX6_append_36 : decode cX6_append 36 = .ok (.iconst 0, 1) := by decide +kernel
theorem dX6_append_37 : decode cX6_append 37 = .ok (.istore_n 3, 1) := by decide +kernel
theorem dX6_append_38 : decode cX6_append 38 = .ok (.iload_n 3, 1) := by decide +kernel
theorem dX6_append_39 : decode cX6_append 39 = .ok (.iload_n 2, 1) := by decide +kernel
theorem dX6_append_40 : decode cX6_append 40 = .ok (.if_icmp .ge 29, 3) := by decide +kernel
theorem dX6_append_43 : decode cX6_append 43 = .ok (.aload_n 0, 1) := by decide +kernel
theorem dX6_append_44 : decode cX6_append 44 = .ok (.getfield 34, 3) := by decide +kernel
theorem dX6_append_47 : decode cX6_append 47 = .ok (.aload_n 0, 1) := by decide +kernel
theorem dX6_append_48 : decode cX6_append 48 = .ok (.getfield 105, 3) := by decide +kernel
theorem dX6_append_51 : decode cX6_append 51 = .ok (.iload_n 1, 1) := by decide +kernel
theorem dX6_append_52 : decode cX6_append 52 = .ok (.iastore, 1) := by decide +kernel
theorem dX6_append_53 : decode cX6_append 53 = .ok (.aload_n 0, 1) := by decide +kernel
theorem dX6_append_54 : decode cX6_append 54 = .ok (.dup, 1) := by decide +kernel
theorem dX6_append_55 : decode cX6_append 55 = .ok (.getfield 105, 3) := by decide +kernel
theorem dX6_append_58 : decode cX6_append 58 = .ok (.iconst 1, 1) := by decide +kernel
theorem dX6_append_59 : decode cX6_append 59 = .ok (.iadd, 1) := by decide +kernel
theorem dX6_append_60 : decode cX6_append 60 = .ok (.putfield 105, 3) := by decide +kernel
theorem dX6_append_63 : decode cX6_append 63 = .ok (.iinc 3 1, 3) := by decide +kernel
theorem dX6_append_66 : decode cX6_append 66 = .ok (.goto (-28), 3) := by decide +kernel
theorem dX6_append_69 : decode cX6_append 69 = .ok (.aload_n 0, 1) := by decide +kernel
theorem dX6_append_70 : decode cX6_append 70 = .ok (.getfield 105, 3) := by decide +kernel
theorem dX6_append_73 : decode cX6_append 73 = .ok (.ireturn, 1) := by decide +kernel
theorem dX6_clearInput_0 : decode cX6_clearInput 0 = .ok (.aload_n 0, 1) := by decide +kernel
theorem dX6_clearInput_1 : decode cX6_clearInput 1 = .ok (.getfield 105, 3) := by decide +kernel
theorem dX6_clearInput_4 : decode cX6_clearInput 4 = .ok (.istore_n 1, 1) := by decide +kernel
theorem dX6_clearInput_5 : decode cX6_clearInput 5 = .ok (.aload_n 0, 1) := by decide +kernel
theorem dX6_clearInput_6 : decode cX6_clearInput 6 = .ok (.iconst 0, 1) := by decide +kernel
theorem dX6_clearInput_7 : decode cX6_clearInput 7 = .ok (.putfield 105, 3) := by decide +kernel
theorem dX6_clearInput_10 : decode cX6_clearInput 10 = .ok (.iload_n 1, 1) := by decide +kernel
theorem dX6_clearInput_11 : decode cX6_clearInput 11 = .ok (.ireturn, 1) := by decide +kernel
theorem dX6_codeOf_0 : decode cX6_codeOf 0 = .ok (.iload_n 1, 1) := by decide +kernel
theorem dX6_codeOf_1 : decode cX6_codeOf 1 = .ok (.bipush 97, 2) := by decide +kernel
theorem dX6_codeOf_3 : decode cX6_codeOf 3 = .ok (.bipush 97, 2) := by decide +kernel
theorem dX6_codeOf_5 : decode cX6_codeOf 5 = .ok (.aload_n 0, 1) := by decide +kernel
theorem dX6_codeOf_6 : decode cX6_codeOf 6 = .ok (.getfield 9, 3) := by decide +kernel
theorem dX6_codeOf_9 : decode cX6_codeOf 9 = .ok (.iadd, 1) := by decide +kernel
theorem dX6_codeOf_10 : decode cX6_codeOf 10 = .ok (.iconst 1, 1) := by decide +kernel
theorem dX6_codeOf_11 : decode cX6_codeOf 11 = .ok (.isub, 1) := by decide +kernel
theorem dX6_codeOf_12 : decode cX6_codeOf 12 = .ok (.invokestatic 101, 3) := by decide +kernel
theorem dX6_codeOf_15 : decode cX6_codeOf 15 = .ok (.ifCond .eq 8, 3) := by decide +kernel
theorem dX6_codeOf_18 : decode cX6_codeOf 18 = .ok (.iload_n 1, 1) := by decide +kernel
theorem dX6_codeOf_19 : decode cX6_codeOf 19 = .ok (.bipush 97, 2) := by decide +kernel
theorem dX6_codeOf_21 : decode cX6_codeOf 21 = .ok (.isub, 1) := by decide +kernel
theorem dX6_codeOf_22 : decode cX6_codeOf 22 = .ok (.ireturn, 1) := by decide +kernel
theorem dX6_codeOf_23 : decode cX6_codeOf 23 = .ok (.iload_n 1, 1) := by decide +kernel
theorem dX6_codeOf_24 : decode cX6_codeOf 24 = .ok (.bipush 88, 2) := by decide +kernel
theorem dX6_codeOf_26 : decode cX6_codeOf 26 = .ok (.if_icmp .ne 8, 3) := by decide +kernel
theorem dX6_codeOf_29 : decode cX6_codeOf 29 = .ok (.bipush 10, 2) := by decide +kernel
theorem dX6_codeOf_31 : decode cX6_codeOf 31 = .ok (.goto 37, 3) := by decide +kernel
theorem dX6_codeOf_34 : decode cX6_codeOf 34 = .ok (.iload_n 1, 1) := by decide +kernel
theorem dX6_codeOf_35 : decode cX6_codeOf 35 = .ok (.bipush 89, 2) := by decide +kernel
theorem dX6_codeOf_37 : decode cX6_codeOf 37 = .ok (.if_icmp .ne 8, 3) := by decide +kernel
theorem dX6_codeOf_40 : decode cX6_codeOf 40 = .ok (.bipush 11, 2) := by decide +kernel
theorem dX6_codeOf_42 : decode cX6_codeOf 42 = .ok (.goto 26, 3) := by decide +kernel
theorem dX6_codeOf_45 : decode cX6_codeOf 45 = .ok (.iload_n 1, 1) := by decide +kernel
theorem dX6_codeOf_46 : decode cX6_codeOf 46 = .ok (.bipush 90, 2) := by decide +kernel
theorem dX6_codeOf_48 : decode cX6_codeOf 48 = .ok (.if_icmp .ne 8, 3) := by decide +kernel
theorem dX6_codeOf_51 : decode cX6_codeOf 51 = .ok (.bipush 12, 2) := by decide +kernel
theorem dX6_codeOf_53 : decode cX6_codeOf 53 = .ok (.goto 15, 3) := by decide +kernel
theorem dX6_codeOf_56 : decode cX6_codeOf 56 = .ok (.iload_n 1, 1) := by decide +kernel
theorem dX6_codeOf_57 : decode cX6_codeOf 57 = .ok (.bipush 87, 2) := by decide +kernel
theorem dX6_codeOf_59 : decode cX6_codeOf 59 = .ok (.if_icmp .ne 8, 3) := by decide +kernel
theorem dX6_codeOf_62 : decode cX6_codeOf 62 = .ok (.bipush 13, 2) := by decide +kernel
theorem dX6_codeOf_64 : decode cX6_codeOf 64 = .ok (.goto 4, 3) := by decide +kernel
theorem dX6_codeOf_67 : decode cX6_codeOf 67 = .ok (.iconst (-1), 1) := by decide +kernel
theorem dX6_codeOf_68 : decode cX6_codeOf 68 = .ok (.ireturn, 1) := by decide +kernel
theorem dX6_takeInput_0 : decode cX6_takeInput 0 = .ok (.aload_n 0, 1) := by decide +kernel
theorem dX6_takeInput_1 : decode cX6_takeInput 1 = .ok (.getfield 105, 3) := by decide +kernel
theorem dX6_takeInput_4 : decode cX6_takeInput 4 = .ok (.bipush 8, 2) := by decide +kernel
theorem dX6_takeInput_6 : decode cX6_takeInput 6 = .ok (.if_icmp .gt 18, 3) := by decide +kernel
theorem dX6_takeInput_9 : decode cX6_takeInput 9 = .ok (.iload_n 1, 1) := by decide +kernel
theorem dX6_takeInput_10 : decode cX6_takeInput 10 = .ok (.ifCond .eq 10, 3) := by decide +kernel
theorem dX6_takeInput_13 : decode cX6_takeInput 13 = .ok (.aload_n 0, 1) := by decide +kernel
theorem dX6_takeInput_14 : decode cX6_takeInput 14 = .ok (.getfield 105, 3) := by decide +kernel
theorem dX6_takeInput_17 : decode cX6_takeInput 17 = .ok (.ifCond .le 7, 3) := by decide +kernel
theorem dX6_takeInput_20 : decode cX6_takeInput 20 = .ok (.iconst 1, 1) := by decide +kernel
theorem dX6_takeInput_21 : decode cX6_takeInput 21 = .ok (.goto 4, 3) := by decide +kernel
theorem dX6_takeInput_24 : decode cX6_takeInput 24 = .ok (.iconst 0, 1) := by decide +kernel
theorem dX6_takeInput_25 : decode cX6_takeInput 25 = .ok (.istore_n 2, 1) := by decide +kernel
theorem dX6_takeInput_26 : decode cX6_takeInput 26 = .ok (.iconst 0, 1) := by decide +kernel
theorem dX6_takeInput_27 : decode cX6_takeInput 27 = .ok (.istore_n 3, 1) := by decide +kernel
theorem dX6_takeInput_28 : decode cX6_takeInput 28 = .ok (.iload_n 3, 1) := by decide +kernel
theorem dX6_takeInput_29 : decode cX6_takeInput 29 = .ok (.aload_n 0, 1) := by decide +kernel
theorem dX6_takeInput_30 : decode cX6_takeInput 30 = .ok (.getfield 105, 3) := by decide +kernel
theorem dX6_takeInput_33 : decode cX6_takeInput 33 = .ok (.if_icmp .ge 59, 3) := by decide +kernel
theorem dX6_takeInput_36 : decode cX6_takeInput 36 = .ok (.iload_n 2, 1) := by decide +kernel
theorem dX6_takeInput_37 : decode cX6_takeInput 37 = .ok (.ifCond .eq 55, 3) := by decide +kernel
theorem dX6_takeInput_40 : decode cX6_takeInput 40 = .ok (.aload_n 0, 1) := by decide +kernel
theorem dX6_takeInput_41 : decode cX6_takeInput 41 = .ok (.getfield 37, 3) := by decide +kernel
theorem dX6_takeInput_44 : decode cX6_takeInput 44 = .ok (.iload_n 3, 1) := by decide +kernel
theorem dX6_takeInput_45 : decode cX6_takeInput 45 = .ok (.aload_n 0, 1) := by decide +kernel
theorem dX6_takeInput_46 : decode cX6_takeInput 46 = .ok (.aload_n 0, 1) := by decide +kernel
theorem dX6_takeInput_47 : decode cX6_takeInput 47 = .ok (.getfield 34, 3) := by decide +kernel
theorem dX6_takeInput_50 : decode cX6_takeInput 50 = .ok (.iload_n 3, 1) := by decide +kernel
theorem dX6_takeInput_51 : decode cX6_takeInput 51 = .ok (.iaload, 1) := by decide +kernel
theorem dX6_takeInput_52 : decode cX6_takeInput 52 = .ok (.invokevirtual 108, 3) := by decide +kernel
theorem dX6_takeInput_55 : decode cX6_takeInput 55 = .ok (.iastore, 1) := by decide +kernel
theorem dX6_takeInput_56 : decode cX6_takeInput 56 = .ok (.aload_n 0, 1) := by decide +kernel
theorem dX6_takeInput_57 : decode cX6_takeInput 57 = .ok (.getfield 37, 3) := by decide +kernel
theorem dX6_takeInput_60 : decode cX6_takeInput 60 = .ok (.iload_n 3, 1) := by decide +kernel
theorem dX6_takeInput_61 : decode cX6_takeInput 61 = .ok (.iaload, 1) := by decide +kernel
theorem dX6_takeInput_62 : decode cX6_takeInput 62 = .ok (.ifCond .lt 22, 3) := by decide +kernel
theorem dX6_takeInput_65 : decode cX6_takeInput 65 = .ok (.iload_n 1, 1) := by decide +kernel
theorem dX6_takeInput_66 : decode cX6_takeInput 66 = .ok (.ifCond .ne 14, 3) := by decide +kernel
theorem dX6_takeInput_69 : decode cX6_takeInput 69 = .ok (.aload_n 0, 1) := by decide +kernel
theorem dX6_takeInput_70 : decode cX6_takeInput 70 = .ok (.getfield 37, 3) := by decide +kernel
theorem dX6_takeInput_73 : decode cX6_takeInput 73 = .ok (.iload_n 3, 1) := by decide +kernel
theorem dX6_takeInput_74 : decode cX6_takeInput 74 = .ok (.iaload, 1) := by decide +kernel
theorem dX6_takeInput_75 : decode cX6_takeInput 75 = .ok (.bipush 10, 2) := by decide +kernel
theorem dX6_takeInput_77 : decode cX6_takeInput 77 = .ok (.if_icmp .ge 7, 3) := by decide +kernel
theorem dX6_takeInput_80 : decode cX6_takeInput 80 = .ok (.iconst 1, 1) := by decide +kernel
theorem dX6_takeInput_81 : decode cX6_takeInput 81 = .ok (.goto 4, 3) := by decide +kernel
theorem dX6_takeInput_84 : decode cX6_takeInput 84 = .ok (.iconst 0, 1) := by decide +kernel
theorem dX6_takeInput_85 : decode cX6_takeInput 85 = .ok (.istore_n 2, 1) := by decide +kernel
theorem dX6_takeInput_86 : decode cX6_takeInput 86 = .ok (.iinc 3 1, 3) := by decide +kernel
theorem dX6_takeInput_89 : decode cX6_takeInput 89 = .ok (.goto (-61), 3) := by decide +kernel
theorem dX6_takeInput_92 : decode cX6_takeInput 92 = .ok (.aload_n 0, 1) := by decide +kernel
theorem dX6_takeInput_93 : decode cX6_takeInput 93 = .ok (.aload_n 0, 1) := by decide +kernel
theorem dX6_takeInput_94 : decode cX6_takeInput 94 = .ok (.getfield 105, 3) := by decide +kernel
theorem dX6_takeInput_97 : decode cX6_takeInput 97 = .ok (.putfield 112, 3) := by decide +kernel
theorem dX6_takeInput_100 : decode cX6_takeInput 100 = .ok (.aload_n 0, 1) := by decide +kernel
theorem dX6_takeInput_101 : decode cX6_takeInput 101 = .ok (.iconst 0, 1) := by decide +kernel
theorem dX6_takeInput_102 : decode cX6_takeInput 102 = .ok (.putfield 105, 3) := by decide +kernel
theorem dX6_takeInput_105 : decode cX6_takeInput 105 = .ok (.iload_n 2, 1) := by decide +kernel
theorem dX6_takeInput_106 : decode cX6_takeInput 106 = .ok (.ireturn, 1) := by decide +kernel
theorem dX6_inputIs_0 : decode cX6_inputIs 0 = .ok (.aload_n 0, 1) := by decide +kernel
theorem dX6_inputIs_1 : decode cX6_inputIs 1 = .ok (.getfield 105, 3) := by decide +kernel
theorem dX6_inputIs_4 : decode cX6_inputIs 4 = .ok (.aload_n 1, 1) := by decide +kernel
theorem dX6_inputIs_5 : decode cX6_inputIs 5 = .ok (.invokevirtual 115, 3) := by decide +kernel
theorem dX6_inputIs_8 : decode cX6_inputIs 8 = .ok (.if_icmp .ne 7, 3) := by decide +kernel
theorem dX6_inputIs_11 : decode cX6_inputIs 11 = .ok (.iconst 1, 1) := by decide +kernel
theorem dX6_inputIs_12 : decode cX6_inputIs 12 = .ok (.goto 4, 3) := by decide +kernel
theorem dX6_inputIs_15 : decode cX6_inputIs 15 = .ok (.iconst 0, 1) := by decide +kernel
theorem dX6_inputIs_16 : decode cX6_inputIs 16 = .ok (.istore_n 2, 1) := by decide +kernel
theorem dX6_inputIs_17 : decode cX6_inputIs 17 = .ok (.iconst 0, 1) := by decide +kernel
theorem dX6_inputIs_18 : decode cX6_inputIs 18 = .ok (.istore_n 3, 1) := by decide +kernel
theorem dX6_inputIs_19 : decode cX6_inputIs 19 = .ok (.iload_n 3, 1) := by decide +kernel
theorem dX6_inputIs_20 : decode cX6_inputIs 20 = .ok (.aload_n 0, 1) := by decide +kernel
theorem dX6_inputIs_21 : decode cX6_inputIs 21 = .ok (.getfield 105, 3) := by decide +kernel
theorem dX6_inputIs_24 : decode cX6_inputIs 24 = .ok (.if_icmp .ge 33, 3) := by decide +kernel
theorem dX6_inputIs_27 : decode cX6_inputIs 27 = .ok (.iload_n 2, 1) := by decide +kernel
theorem dX6_inputIs_28 : decode cX6_inputIs 28 = .ok (.ifCond .eq 29, 3) := by decide +kernel
theorem dX6_inputIs_31 : decode cX6_inputIs 31 = .ok (.aload_n 0, 1) := by decide +kernel
theorem dX6_inputIs_32 : decode cX6_inputIs 32 = .ok (.getfield 34, 3) := by decide +kernel
theorem dX6_inputIs_35 : decode cX6_inputIs 35 = .ok (.iload_n 3, 1) := by decide +kernel
theorem dX6_inputIs_36 : decode cX6_inputIs 36 = .ok (.iaload, 1) := by decide +kernel
theorem dX6_inputIs_37 : decode cX6_inputIs 37 = .ok (.aload_n 1, 1) := by decide +kernel
theorem dX6_inputIs_38 : decode cX6_inputIs 38 = .ok (.iload_n 3, 1) := by decide +kernel
theorem dX6_inputIs_39 : decode cX6_inputIs 39 = .ok (.invokevirtual 121, 3) := by decide +kernel
theorem dX6_inputIs_42 : decode cX6_inputIs 42 = .ok (.if_icmp .ne 7, 3) := by decide +kernel
theorem dX6_inputIs_45 : decode cX6_inputIs 45 = .ok (.iconst 1, 1) := by decide +kernel
theorem dX6_inputIs_46 : decode cX6_inputIs 46 = .ok (.goto 4, 3) := by decide +kernel
theorem dX6_inputIs_49 : decode cX6_inputIs 49 = .ok (.iconst 0, 1) := by decide +kernel
theorem dX6_inputIs_50 : decode cX6_inputIs 50 = .ok (.istore_n 2, 1) := by decide +kernel
theorem dX6_inputIs_51 : decode cX6_inputIs 51 = .ok (.iinc 3 1, 3) := by decide +kernel
theorem dX6_inputIs_54 : decode cX6_inputIs 54 = .ok (.goto (-35), 3) := by decide +kernel
theorem dX6_inputIs_57 : decode cX6_inputIs 57 = .ok (.iload_n 2, 1) := by decide +kernel
theorem dX6_inputIs_58 : decode cX6_inputIs 58 = .ok (.ireturn, 1) := by decide +kernel
theorem dX6_normalize_0 : decode cX6_normalize 0 = .ok (.iconst 0, 1) := by decide +kernel
theorem dX6_normalize_1 : decode cX6_normalize 1 = .ok (.istore_n 2, 1) := by decide +kernel
theorem dX6_normalize_2 : decode cX6_normalize 2 = .ok (.iload_n 2, 1) := by decide +kernel
theorem dX6_normalize_3 : decode cX6_normalize 3 = .ok (.iconst 4, 1) := by decide +kernel
theorem dX6_normalize_4 : decode cX6_normalize 4 = .ok (.if_icmp .ge 16, 3) := by decide +kernel
theorem dX6_normalize_7 : decode cX6_normalize 7 = .ok (.aload_n 0, 1) := by decide +kernel
theorem dX6_normalize_8 : decode cX6_normalize 8 = .ok (.getfield 40, 3) := by decide +kernel
theorem dX6_normalize_11 : decode cX6_normalize 11 = .ok (.iload_n 2, 1) := by decide +kernel
theorem dX6_normalize_12 : decode cX6_normalize 12 = .ok (.iconst (-1), 1) := by decide +kernel
theorem dX6_normalize_13 : decode cX6_normalize 13 = .ok (.iastore, 1) := by decide +kernel
theorem dX6_normalize_14 : decode cX6_normalize 14 = .ok (.iinc 2 1, 3) := by decide +kernel
theorem dX6_normalize_17 : decode cX6_normalize 17 = .ok (.goto (-15), 3) := by decide +kernel
theorem dX6_normalize_20 : decode cX6_normalize 20 = .ok (.bipush 10, 2) := by decide +kernel
theorem dX6_normalize_22 : decode cX6_normalize 22 = .ok (.istore_n 2, 1) := by decide +kernel
theorem dX6_normalize_23 : decode cX6_normalize 23 = .ok (.bipush 8, 2) := by decide +kernel
theorem dX6_normalize_25 : decode cX6_normalize 25 = .ok (.iload_n 1, 1) := by decide +kernel
theorem dX6_normalize_26 : decode cX6_normalize 26 = .ok (.imul, 1) := by decide +kernel
theorem dX6_normalize_27 : decode cX6_normalize 27 = .ok (.istore_n 3, 1) := by decide +kernel
theorem dX6_normalize_28 : decode cX6_normalize 28 = .ok (.iload_n 3, 1) := by decide +kernel
theorem dX6_normalize_29 : decode cX6_normalize 29 = .ok (.bipush 8, 2) := by decide +kernel
theorem dX6_normalize_31 : decode cX6_normalize 31 = .ok (.iload_n 1, 1) := by decide +kernel
theorem dX6_normalize_32 : decode cX6_normalize 32 = .ok (.imul, 1) := by decide +kernel
theorem dX6_normalize_33 : decode cX6_normalize 33 = .ok (.aload_n 0, 1) := by decide +kernel
theorem dX6_normalize_34 : decode cX6_normalize 34 = .ok (.getfield 19, 3) := by decide +kernel
theorem dX6_normalize_37 : decode cX6_normalize 37 = .ok (.iload_n 1, 1) := by decide +kernel
theorem dX6_normalize_38 : decode cX6_normalize 38 = .ok (.iaload, 1) := by decide +kernel
theorem dX6_normalize_39 : decode cX6_normalize 39 = .ok (.iadd, 1) := by decide +kernel
theorem dX6_normalize_40 : decode cX6_normalize 40 = .ok (.if_icmp .ge 65, 3) := by decide +kernel
theorem dX6_normalize_43 : decode cX6_normalize 43 = .ok (.aload_n 0, 1) := by decide +kernel
theorem dX6_normalize_44 : decode cX6_normalize 44 = .ok (.getfield 15, 3) := by decide +kernel
theorem dX6_normalize_47 : decode cX6_normalize 47 = .ok (.iload_n 3, 1) := by decide +kernel
theorem dX6_normalize_48 : decode cX6_normalize 48 = .ok (.iaload, 1) := by decide +kernel
theorem dX6_normalize_49 : decode cX6_normalize 49 = .ok (.bipush 10, 2) := by decide +kernel
theorem dX6_normalize_51 : decode cX6_normalize 51 = .ok (.if_icmp .lt 48, 3) := by decide +kernel
theorem dX6_normalize_54 : decode cX6_normalize 54 = .ok (.aload_n 0, 1) := by decide +kernel
theorem dX6_normalize_55 : decode cX6_normalize 55 = .ok (.getfield 15, 3) := by decide +kernel
theorem dX6_normalize_58 : decode cX6_normalize 58 = .ok (.iload_n 3, 1) := by decide +kernel
theorem dX6_normalize_59 : decode cX6_normalize 59 = .ok (.iaload, 1) := by decide +kernel
theorem dX6_normalize_60 : decode cX6_normalize 60 = .ok (.bipush 10, 2) := by decide +kernel
theorem dX6_normalize_62 : decode cX6_normalize 62 = .ok (.isub, 1) := by decide +kernel
theorem dX6_normalize_63 : decode cX6_normalize 63 = .ok (.istore 4, 2) := by decide +kernel
theorem dX6_normalize_65 : decode cX6_normalize 65 = .ok (.aload_n 0, 1) := by decide +kernel
theorem dX6_normalize_66 : decode cX6_normalize 66 = .ok (.getfield 40, 3) := by decide +kernel
theorem dX6_normalize_69 : decode cX6_normalize 69 = .ok (.iload 4, 2) := by decide +kernel
theorem dX6_normalize_71 : decode cX6_normalize 71 = .ok (.iaload, 1) := by decide +kernel
theorem dX6_normalize_72 : decode cX6_normalize 72 = .ok (.ifCond .ge 14, 3) := by decide +kernel
theorem dX6_normalize_75 : decode cX6_normalize 75 = .ok (.aload_n 0, 1) := by decide +kernel
theorem dX6_normalize_76 : decode cX6_normalize 76 = .ok (.getfield 40, 3) := by decide +kernel
theorem dX6_normalize_79 : decode cX6_normalize 79 = .ok (.iload 4, 2) := by decide +kernel
theorem dX6_normalize_81 : decode cX6_normalize 81 = .ok (.iload_n 2, 1) := by decide +kernel
theorem dX6_normalize_82 : decode cX6_normalize 82 = .ok (.iastore, 1) := by decide +kernel
theorem dX6_normalize_83 : decode cX6_normalize 83 = .ok (.iinc 2 1, 3) := by decide +kernel
theorem dX6_normalize_86 : decode cX6_normalize 86 = .ok (.aload_n 0, 1) := by decide +kernel
theorem dX6_normalize_87 : decode cX6_normalize 87 = .ok (.getfield 15, 3) := by decide +kernel
theorem dX6_normalize_90 : decode cX6_normalize 90 = .ok (.iload_n 3, 1) := by decide +kernel
theorem dX6_normalize_91 : decode cX6_normalize 91 = .ok (.aload_n 0, 1) := by decide +kernel
theorem dX6_normalize_92 : decode cX6_normalize 92 = .ok (.getfield 40, 3) := by decide +kernel
theorem dX6_normalize_95 : decode cX6_normalize 95 = .ok (.iload 4, 2) := by decide +kernel
theorem dX6_normalize_97 : decode cX6_normalize 97 = .ok (.iaload, 1) := by decide +kernel
theorem dX6_normalize_98 : decode cX6_normalize 98 = .ok (.iastore, 1) := by decide +kernel
theorem dX6_normalize_99 : decode cX6_normalize 99 = .ok (.iinc 3 1, 3) := by decide +kernel
theorem dX6_normalize_102 : decode cX6_normalize 102 = .ok (.goto (-74), 3) := by decide +kernel
theorem dX6_normalize_105 : decode cX6_normalize 105 = .ok (.return_, 1) := by decide +kernel
theorem dX6_store_0 : decode cX6_store 0 = .ok (.aload_n 0, 1) := by decide +kernel
theorem dX6_store_1 : decode cX6_store 1 = .ok (.getfield 37, 3) := by decide +kernel
theorem dX6_store_4 : decode cX6_store 4 = .ok (.iconst 0, 1) := by decide +kernel
theorem dX6_store_5 : decode cX6_store 5 = .ok (.aload_n 0, 1) := by decide +kernel
theorem dX6_store_6 : decode cX6_store 6 = .ok (.getfield 15, 3) := by decide +kernel
theorem dX6_store_9 : decode cX6_store 9 = .ok (.bipush 8, 2) := by decide +kernel
theorem dX6_store_11 : decode cX6_store 11 = .ok (.iload_n 1, 1) := by decide +kernel
theorem dX6_store_12 : decode cX6_store 12 = .ok (.imul, 1) := by decide +kernel
theorem dX6_store_13 : decode cX6_store 13 = .ok (.aload_n 0, 1) := by decide +kernel
theorem dX6_store_14 : decode cX6_store 14 = .ok (.getfield 112, 3) := by decide +kernel
theorem dX6_store_17 : decode cX6_store 17 = .ok (.invokestatic 125, 3) := by decide +kernel
theorem dX6_store_20 : decode cX6_store 20 = .ok (.aload_n 0, 1) := by decide +kernel
theorem dX6_store_21 : decode cX6_store 21 = .ok (.getfield 19, 3) := by decide +kernel
theorem dX6_store_24 : decode cX6_store 24 = .ok (.iload_n 1, 1) := by decide +kernel
theorem dX6_store_25 : decode cX6_store 25 = .ok (.aload_n 0, 1) := by decide +kernel
theorem dX6_store_26 : decode cX6_store 26 = .ok (.getfield 112, 3) := by decide +kernel
theorem dX6_store_29 : decode cX6_store 29 = .ok (.iastore, 1) := by decide +kernel
theorem dX6_store_30 : decode cX6_store 30 = .ok (.aload_n 0, 1) := by decide +kernel
theorem dX6_store_31 : decode cX6_store 31 = .ok (.iload_n 1, 1) := by decide +kernel
theorem dX6_store_32 : decode cX6_store 32 = .ok (.invokevirtual 131, 3) := by decide +kernel
theorem dX6_store_35 : decode cX6_store 35 = .ok (.aload_n 0, 1) := by decide +kernel
theorem dX6_store_36 : decode cX6_store 36 = .ok (.getfield 112, 3) := by decide +kernel
theorem dX6_store_39 : decode cX6_store 39 = .ok (.ireturn, 1) := by decide +kernel
theorem dX6_setPattern_0 : decode cX6_setPattern 0 = .ok (.aload_n 0, 1) := by decide +kernel
theorem dX6_setPattern_1 : decode cX6_setPattern 1 = .ok (.iconst 1, 1) := by decide +kernel
theorem dX6_setPattern_2 : decode cX6_setPattern 2 = .ok (.invokevirtual 135, 3) := by decide +kernel
theorem dX6_setPattern_5 : decode cX6_setPattern 5 = .ok (.istore_n 2, 1) := by decide +kernel
theorem dX6_setPattern_6 : decode cX6_setPattern 6 = .ok (.iload_n 1, 1) := by decide +kernel
theorem dX6_setPattern_7 : decode cX6_setPattern 7 = .ok (.invokestatic 139, 3) := by decide +kernel
theorem dX6_setPattern_10 : decode cX6_setPattern 10 = .ok (.ifCond .ne 6, 3) := by decide +kernel
theorem dX6_setPattern_13 : decode cX6_setPattern 13 = .ok (.bipush (-2), 2) := by decide +kernel
theorem dX6_setPattern_15 : decode cX6_setPattern 15 = .ok (.ireturn, 1) := by decide +kernel
theorem dX6_setPattern_16 : decode cX6_setPattern 16 = .ok (.iload_n 2, 1) := by decide +kernel
theorem dX6_setPattern_17 : decode cX6_setPattern 17 = .ok (.ifCond .eq 11, 3) := by decide +kernel
theorem dX6_setPattern_20 : decode cX6_setPattern 20 = .ok (.aload_n 0, 1) := by decide +kernel
theorem dX6_setPattern_21 : decode cX6_setPattern 21 = .ok (.iload_n 1, 1) := by decide +kernel
theorem dX6_setPattern_22 : decode cX6_setPattern 22 = .ok (.invokevirtual 143, 3) := by decide +kernel
theorem dX6_setPattern_25 : decode cX6_setPattern 25 = .ok (.goto 5, 3) := by decide +kernel
theorem dX6_setPattern_28 : decode cX6_setPattern 28 = .ok (.bipush (-5), 2) := by decide +kernel
theorem dX6_setPattern_30 : decode cX6_setPattern 30 = .ok (.ireturn, 1) := by decide +kernel
theorem dX6_copy_0 : decode cX6_copy 0 = .ok (.iload_n 1, 1) := by decide +kernel
theorem dX6_copy_1 : decode cX6_copy 1 = .ok (.invokestatic 139, 3) := by decide +kernel
theorem dX6_copy_4 : decode cX6_copy 4 = .ok (.ifCond .eq 10, 3) := by decide +kernel
theorem dX6_copy_7 : decode cX6_copy 7 = .ok (.iload_n 2, 1) := by decide +kernel
theorem dX6_copy_8 : decode cX6_copy 8 = .ok (.invokestatic 139, 3) := by decide +kernel
theorem dX6_copy_11 : decode cX6_copy 11 = .ok (.ifCond .ne 6, 3) := by decide +kernel
theorem dX6_copy_14 : decode cX6_copy 14 = .ok (.bipush (-2), 2) := by decide +kernel
theorem dX6_copy_16 : decode cX6_copy 16 = .ok (.ireturn, 1) := by decide +kernel
theorem dX6_copy_17 : decode cX6_copy 17 = .ok (.aload_n 0, 1) := by decide +kernel
theorem dX6_copy_18 : decode cX6_copy 18 = .ok (.getfield 15, 3) := by decide +kernel
theorem dX6_copy_21 : decode cX6_copy 21 = .ok (.bipush 8, 2) := by decide +kernel
theorem dX6_copy_23 : decode cX6_copy 23 = .ok (.iload_n 2, 1) := by decide +kernel
theorem dX6_copy_24 : decode cX6_copy 24 = .ok (.imul, 1) := by decide +kernel
theorem dX6_copy_25 : decode cX6_copy 25 = .ok (.aload_n 0, 1) := by decide +kernel
theorem dX6_copy_26 : decode cX6_copy 26 = .ok (.getfield 15, 3) := by decide +kernel
theorem dX6_copy_29 : decode cX6_copy 29 = .ok (.bipush 8, 2) := by decide +kernel
theorem dX6_copy_31 : decode cX6_copy 31 = .ok (.iload_n 1, 1) := by decide +kernel
theorem dX6_copy_32 : decode cX6_copy 32 = .ok (.imul, 1) := by decide +kernel
theorem dX6_copy_33 : decode cX6_copy 33 = .ok (.bipush 8, 2) := by decide +kernel
theorem dX6_copy_35 : decode cX6_copy 35 = .ok (.invokestatic 125, 3) := by decide +kernel
theorem dX6_copy_38 : decode cX6_copy 38 = .ok (.aload_n 0, 1) := by decide +kernel
theorem dX6_copy_39 : decode cX6_copy 39 = .ok (.getfield 19, 3) := by decide +kernel
theorem dX6_copy_42 : decode cX6_copy 42 = .ok (.iload_n 1, 1) := by decide +kernel
theorem dX6_copy_43 : decode cX6_copy 43 = .ok (.aload_n 0, 1) := by decide +kernel
theorem dX6_copy_44 : decode cX6_copy 44 = .ok (.getfield 19, 3) := by decide +kernel
theorem dX6_copy_47 : decode cX6_copy 47 = .ok (.iload_n 2, 1) := by decide +kernel
theorem dX6_copy_48 : decode cX6_copy 48 = .ok (.iaload, 1) := by decide +kernel
theorem dX6_copy_49 : decode cX6_copy 49 = .ok (.iastore, 1) := by decide +kernel
theorem dX6_copy_50 : decode cX6_copy 50 = .ok (.aload_n 0, 1) := by decide +kernel
theorem dX6_copy_51 : decode cX6_copy 51 = .ok (.getfield 19, 3) := by decide +kernel
theorem dX6_copy_54 : decode cX6_copy 54 = .ok (.iload_n 1, 1) := by decide +kernel
theorem dX6_copy_55 : decode cX6_copy 55 = .ok (.iaload, 1) := by decide +kernel
theorem dX6_copy_56 : decode cX6_copy 56 = .ok (.ireturn, 1) := by decide +kernel
theorem dX6_length_0 : decode cX6_length 0 = .ok (.iload_n 1, 1) := by decide +kernel
theorem dX6_length_1 : decode cX6_length 1 = .ok (.invokestatic 139, 3) := by decide +kernel
theorem dX6_length_4 : decode cX6_length 4 = .ok (.ifCond .eq 12, 3) := by decide +kernel
theorem dX6_length_7 : decode cX6_length 7 = .ok (.aload_n 0, 1) := by decide +kernel
theorem dX6_length_8 : decode cX6_length 8 = .ok (.getfield 19, 3) := by decide +kernel
theorem dX6_length_11 : decode cX6_length 11 = .ok (.iload_n 1, 1) := by decide +kernel
theorem dX6_length_12 : decode cX6_length 12 = .ok (.iaload, 1) := by decide +kernel
theorem dX6_length_13 : decode cX6_length 13 = .ok (.goto 5, 3) := by decide +kernel
theorem dX6_length_16 : decode cX6_length 16 = .ok (.bipush (-2), 2) := by decide +kernel
theorem dX6_length_18 : decode cX6_length 18 = .ok (.ireturn, 1) := by decide +kernel
theorem dX6_symbol_0 : decode cX6_symbol 0 = .ok (.iload_n 1, 1) := by decide +kernel
theorem dX6_symbol_1 : decode cX6_symbol 1 = .ok (.invokestatic 139, 3) := by decide +kernel
theorem dX6_symbol_4 : decode cX6_symbol 4 = .ok (.ifCond .ne 6, 3) := by decide +kernel
theorem dX6_symbol_7 : decode cX6_symbol 7 = .ok (.bipush (-2), 2) := by decide +kernel
theorem dX6_symbol_9 : decode cX6_symbol 9 = .ok (.ireturn, 1) := by decide +kernel
theorem dX6_symbol_10 : decode cX6_symbol 10 = .ok (.iload_n 2, 1) := by decide +kernel
theorem dX6_symbol_11 : decode cX6_symbol 11 = .ok (.iconst 0, 1) := by decide +kernel
theorem dX6_symbol_12 : decode cX6_symbol 12 = .ok (.aload_n 0, 1) := by decide +kernel
theorem dX6_symbol_13 : decode cX6_symbol 13 = .ok (.getfield 19, 3) := by decide +kernel
theorem dX6_symbol_16 : decode cX6_symbol 16 = .ok (.iload_n 1, 1) := by decide +kernel
theorem dX6_symbol_17 : decode cX6_symbol 17 = .ok (.iaload, 1) := by decide +kernel
theorem dX6_symbol_18 : decode cX6_symbol 18 = .ok (.iconst 1, 1) := by decide +kernel
theorem dX6_symbol_19 : decode cX6_symbol 19 = .ok (.isub, 1) := by decide +kernel
theorem dX6_symbol_20 : decode cX6_symbol 20 = .ok (.invokestatic 101, 3) := by decide +kernel
theorem dX6_symbol_23 : decode cX6_symbol 23 = .ok (.ifCond .eq 17, 3) := by decide +kernel
theorem dX6_symbol_26 : decode cX6_symbol 26 = .ok (.aload_n 0, 1) := by decide +kernel
theorem dX6_symbol_27 : decode cX6_symbol 27 = .ok (.getfield 15, 3) := by decide +kernel
theorem dX6_symbol_30 : decode cX6_symbol 30 = .ok (.bipush 8, 2) := by decide +kernel
theorem dX6_symbol_32 : decode cX6_symbol 32 = .ok (.iload_n 1, 1) := by decide +kernel
theorem dX6_symbol_33 : decode cX6_symbol 33 = .ok (.imul, 1) := by decide +kernel
theorem dX6_symbol_34 : decode cX6_symbol 34 = .ok (.iload_n 2, 1) := by decide +kernel
theorem dX6_symbol_35 : decode cX6_symbol 35 = .ok (.iadd, 1) := by decide +kernel
theorem dX6_symbol_36 : decode cX6_symbol 36 = .ok (.iaload, 1) := by decide +kernel
theorem dX6_symbol_37 : decode cX6_symbol 37 = .ok (.goto 5, 3) := by decide +kernel
theorem dX6_symbol_40 : decode cX6_symbol 40 = .ok (.bipush (-6), 2) := by decide +kernel
theorem dX6_symbol_42 : decode cX6_symbol 42 = .ok (.ireturn, 1) := by decide +kernel
theorem dX6_countOf_0 : decode cX6_countOf 0 = .ok (.iconst 0, 1) := by decide +kernel
theorem dX6_countOf_1 : decode cX6_countOf 1 = .ok (.istore 4, 2) := by decide +kernel
theorem dX6_countOf_3 : decode cX6_countOf 3 = .ok (.iload_n 2, 1) := by decide +kernel
theorem dX6_countOf_4 : decode cX6_countOf 4 = .ok (.istore 5, 2) := by decide +kernel
theorem dX6_countOf_6 : decode cX6_countOf 6 = .ok (.iload 5, 2) := by decide +kernel
theorem dX6_countOf_8 : decode cX6_countOf 8 = .ok (.iload_n 2, 1) := by decide +kernel
theorem dX6_countOf_9 : decode cX6_countOf 9 = .ok (.iload_n 3, 1) := by decide +kernel
theorem dX6_countOf_10 : decode cX6_countOf 10 = .ok (.iadd, 1) := by decide +kernel
theorem dX6_countOf_11 : decode cX6_countOf 11 = .ok (.if_icmp .ge 27, 3) := by decide +kernel
theorem dX6_countOf_14 : decode cX6_countOf 14 = .ok (.iload 4, 2) := by decide +kernel
theorem dX6_countOf_16 : decode cX6_countOf 16 = .ok (.aload_n 1, 1) := by decide +kernel
theorem dX6_countOf_17 : decode cX6_countOf 17 = .ok (.iload 5, 2) := by decide +kernel
theorem dX6_countOf_19 : decode cX6_countOf 19 = .ok (.iaload, 1) := by decide +kernel
theorem dX6_countOf_20 : decode cX6_countOf 20 = .ok (.iload_n 0, 1) := by decide +kernel
theorem dX6_countOf_21 : decode cX6_countOf 21 = .ok (.if_icmp .ne 7, 3) := by decide +kernel
theorem dX6_countOf_24 : decode cX6_countOf 24 = .ok (.iconst 1, 1) := by decide +kernel
theorem dX6_countOf_25 : decode cX6_countOf 25 = .ok (.goto 4, 3) := by decide +kernel
theorem dX6_countOf_28 : decode cX6_countOf 28 = .ok (.iconst 0, 1) := by decide +kernel
theorem dX6_countOf_29 : decode cX6_countOf 29 = .ok (.iadd, 1) := by decide +kernel
theorem dX6_countOf_30 : decode cX6_countOf 30 = .ok (.istore 4, 2) := by decide +kernel
theorem dX6_countOf_32 : decode cX6_countOf 32 = .ok (.iinc 5 1, 3) := by decide +kernel
theorem dX6_countOf_35 : decode cX6_countOf 35 = .ok (.goto (-29), 3) := by decide +kernel
theorem dX6_countOf_38 : decode cX6_countOf 38 = .ok (.iload 4, 2) := by decide +kernel
theorem dX6_countOf_40 : decode cX6_countOf 40 = .ok (.ireturn, 1) := by decide +kernel
theorem dX6_variablesIn_0 : decode cX6_variablesIn 0 = .ok (.iconst 0, 1) := by decide +kernel
theorem dX6_variablesIn_1 : decode cX6_variablesIn 1 = .ok (.istore_n 3, 1) := by decide +kernel
theorem dX6_variablesIn_2 : decode cX6_variablesIn 2 = .ok (.bipush 10, 2) := by decide +kernel
theorem dX6_variablesIn_4 : decode cX6_variablesIn 4 = .ok (.istore 4, 2) := by decide +kernel
theorem dX6_variablesIn_6 : decode cX6_variablesIn 6 = .ok (.iload 4, 2) := by decide +kernel
theorem dX6_variablesIn_8 : decode cX6_variablesIn 8 = .ok (.bipush 14, 2) := by decide +kernel
theorem dX6_variablesIn_10 : decode cX6_variablesIn 10 = .ok (.if_icmp .ge 28, 3) := by decide +kernel
theorem dX6_variablesIn_13 : decode cX6_variablesIn 13 = .ok (.iload_n 3, 1) := by decide +kernel
theorem dX6_variablesIn_14 : decode cX6_variablesIn 14 = .ok (.iload 4, 2) := by decide +kernel
theorem dX6_variablesIn_16 : decode cX6_variablesIn 16 = .ok (.aload_n 0, 1) := by decide +kernel
theorem dX6_variablesIn_17 : decode cX6_variablesIn 17 = .ok (.iload_n 1, 1) := by decide +kernel
theorem dX6_variablesIn_18 : decode cX6_variablesIn 18 = .ok (.iload_n 2, 1) := by decide +kernel
theorem dX6_variablesIn_19 : decode cX6_variablesIn 19 = .ok (.invokestatic 146, 3) := by decide +kernel
theorem dX6_variablesIn_22 : decode cX6_variablesIn 22 = .ok (.ifCond .le 7, 3) := by decide +kernel
theorem dX6_variablesIn_25 : decode cX6_variablesIn 25 = .ok (.iconst 1, 1) := by decide +kernel
theorem dX6_variablesIn_26 : decode cX6_variablesIn 26 = .ok (.goto 4, 3) := by decide +kernel
theorem dX6_variablesIn_29 : decode cX6_variablesIn 29 = .ok (.iconst 0, 1) := by decide +kernel
theorem dX6_variablesIn_30 : decode cX6_variablesIn 30 = .ok (.iadd, 1) := by decide +kernel
theorem dX6_variablesIn_31 : decode cX6_variablesIn 31 = .ok (.istore_n 3, 1) := by decide +kernel
theorem dX6_variablesIn_32 : decode cX6_variablesIn 32 = .ok (.iinc 4 1, 3) := by decide +kernel
theorem dX6_variablesIn_35 : decode cX6_variablesIn 35 = .ok (.goto (-29), 3) := by decide +kernel
theorem dX6_variablesIn_38 : decode cX6_variablesIn 38 = .ok (.iload_n 3, 1) := by decide +kernel
theorem dX6_variablesIn_39 : decode cX6_variablesIn 39 = .ok (.ireturn, 1) := by decide +kernel
theorem dX6_lettersIn_0 : decode cX6_lettersIn 0 = .ok (.iconst 0, 1) := by decide +kernel
theorem dX6_lettersIn_1 : decode cX6_lettersIn 1 = .ok (.istore_n 3, 1) := by decide +kernel
theorem dX6_lettersIn_2 : decode cX6_lettersIn 2 = .ok (.iload_n 1, 1) := by decide +kernel
theorem dX6_lettersIn_3 : decode cX6_lettersIn 3 = .ok (.istore 4, 2) := by decide +kernel
theorem dX6_lettersIn_5 : decode cX6_lettersIn 5 = .ok (.iload 4, 2) := by decide +kernel
theorem dX6_lettersIn_7 : decode cX6_lettersIn 7 = .ok (.iload_n 1, 1) := by decide +kernel
theorem dX6_lettersIn_8 : decode cX6_lettersIn 8 = .ok (.iload_n 2, 1) := by decide +kernel
theorem dX6_lettersIn_9 : decode cX6_lettersIn 9 = .ok (.iadd, 1) := by decide +kernel
theorem dX6_lettersIn_10 : decode cX6_lettersIn 10 = .ok (.if_icmp .ge 26, 3) := by decide +kernel
theorem dX6_lettersIn_13 : decode cX6_lettersIn 13 = .ok (.iload_n 3, 1) := by decide +kernel
theorem dX6_lettersIn_14 : decode cX6_lettersIn 14 = .ok (.aload_n 0, 1) := by decide +kernel
theorem dX6_lettersIn_15 : decode cX6_lettersIn 15 = .ok (.iload 4, 2) := by decide +kernel
theorem dX6_lettersIn_17 : decode cX6_lettersIn 17 = .ok (.iaload, 1) := by decide +kernel
theorem dX6_lettersIn_18 : decode cX6_lettersIn 18 = .ok (.bipush 10, 2) := by decide +kernel
theorem dX6_lettersIn_20 : decode cX6_lettersIn 20 = .ok (.if_icmp .ge 7, 3) := by decide +kernel
theorem dX6_lettersIn_23 : decode cX6_lettersIn 23 = .ok (.iconst 1, 1) := by decide +kernel
theorem dX6_lettersIn_24 : decode cX6_lettersIn 24 = .ok (.goto 4, 3) := by decide +kernel
theorem dX6_lettersIn_27 : decode cX6_lettersIn 27 = .ok (.iconst 0, 1) := by decide +kernel
theorem dX6_lettersIn_28 : decode cX6_lettersIn 28 = .ok (.iadd, 1) := by decide +kernel
theorem dX6_lettersIn_29 : decode cX6_lettersIn 29 = .ok (.istore_n 3, 1) := by decide +kernel
theorem dX6_lettersIn_30 : decode cX6_lettersIn 30 = .ok (.iinc 4 1, 3) := by decide +kernel
theorem dX6_lettersIn_33 : decode cX6_lettersIn 33 = .ok (.goto (-28), 3) := by decide +kernel
theorem dX6_lettersIn_36 : decode cX6_lettersIn 36 = .ok (.iload_n 3, 1) := by decide +kernel
theorem dX6_lettersIn_37 : decode cX6_lettersIn 37 = .ok (.ireturn, 1) := by decide +kernel
theorem dX6_variables_0 : decode cX6_variables 0 = .ok (.aload_n 0, 1) := by decide +kernel
theorem dX6_variables_1 : decode cX6_variables 1 = .ok (.getfield 15, 3) := by decide +kernel
theorem dX6_variables_4 : decode cX6_variables 4 = .ok (.bipush 8, 2) := by decide +kernel
theorem dX6_variables_6 : decode cX6_variables 6 = .ok (.iload_n 1, 1) := by decide +kernel
theorem dX6_variables_7 : decode cX6_variables 7 = .ok (.imul, 1) := by decide +kernel
theorem dX6_variables_8 : decode cX6_variables 8 = .ok (.aload_n 0, 1) := by decide +kernel
theorem dX6_variables_9 : decode cX6_variables 9 = .ok (.getfield 19, 3) := by decide +kernel
theorem dX6_variables_12 : decode cX6_variables 12 = .ok (.iload_n 1, 1) := by decide +kernel
theorem dX6_variables_13 : decode cX6_variables 13 = .ok (.iaload, 1) := by decide +kernel
theorem dX6_variables_14 : decode cX6_variables 14 = .ok (.invokestatic 150, 3) := by decide +kernel
theorem dX6_variables_17 : decode cX6_variables 17 = .ok (.ireturn, 1) := by decide +kernel
theorem dX6_variableCount_0 : decode cX6_variableCount 0 = .ok (.iload_n 1, 1) := by decide +kernel
theorem dX6_variableCount_1 : decode cX6_variableCount 1 = .ok (.invokestatic 139, 3) := by decide +kernel
theorem dX6_variableCount_4 : decode cX6_variableCount 4 = .ok (.ifCond .eq 11, 3) := by decide +kernel
theorem dX6_variableCount_7 : decode cX6_variableCount 7 = .ok (.aload_n 0, 1) := by decide +kernel
theorem dX6_variableCount_8 : decode cX6_variableCount 8 = .ok (.iload_n 1, 1) := by decide +kernel
theorem dX6_variableCount_9 : decode cX6_variableCount 9 = .ok (.invokevirtual 154, 3) := by decide +kernel
theorem dX6_variableCount_12 : decode cX6_variableCount 12 = .ok (.goto 5, 3) := by decide +kernel
theorem dX6_variableCount_15 : decode cX6_variableCount 15 = .ok (.bipush (-2), 2) := by decide +kernel
theorem dX6_variableCount_17 : decode cX6_variableCount 17 = .ok (.ireturn, 1) := by decide +kernel
theorem dX6_occurs_0 : decode cX6_occurs 0 = .ok (.iload_n 2, 1) := by decide +kernel
theorem dX6_occurs_1 : decode cX6_occurs 1 = .ok (.iconst 0, 1) := by decide +kernel
theorem dX6_occurs_2 : decode cX6_occurs 2 = .ok (.iconst 3, 1) := by decide +kernel
theorem dX6_occurs_3 : decode cX6_occurs 3 = .ok (.invokestatic 101, 3) := by decide +kernel
theorem dX6_occurs_6 : decode cX6_occurs 6 = .ok (.ifCond .eq 27, 3) := by decide +kernel
theorem dX6_occurs_9 : decode cX6_occurs 9 = .ok (.bipush 10, 2) := by decide +kernel
theorem dX6_occurs_11 : decode cX6_occurs 11 = .ok (.iload_n 2, 1) := by decide +kernel
theorem dX6_occurs_12 : decode cX6_occurs 12 = .ok (.iadd, 1) := by decide +kernel
theorem dX6_occurs_13 : decode cX6_occurs 13 = .ok (.aload_n 0, 1) := by decide +kernel
theorem dX6_occurs_14 : decode cX6_occurs 14 = .ok (.getfield 15, 3) := by decide +kernel
theorem dX6_occurs_17 : decode cX6_occurs 17 = .ok (.bipush 8, 2) := by decide +kernel
theorem dX6_occurs_19 : decode cX6_occurs 19 = .ok (.iload_n 1, 1) := by decide +kernel
theorem dX6_occurs_20 : decode cX6_occurs 20 = .ok (.imul, 1) := by decide +kernel
theorem dX6_occurs_21 : decode cX6_occurs 21 = .ok (.aload_n 0, 1) := by decide +kernel
theorem dX6_occurs_22 : decode cX6_occurs 22 = .ok (.getfield 19, 3) := by decide +kernel
theorem dX6_occurs_25 : decode cX6_occurs 25 = .ok (.iload_n 1, 1) := by decide +kernel
theorem dX6_occurs_26 : decode cX6_occurs 26 = .ok (.iaload, 1) := by decide +kernel
theorem dX6_occurs_27 : decode cX6_occurs 27 = .ok (.invokestatic 146, 3) := by decide +kernel
theorem dX6_occurs_30 : decode cX6_occurs 30 = .ok (.goto 4, 3) := by decide +kernel
theorem dX6_occurs_33 : decode cX6_occurs 33 = .ok (.iconst 0, 1) := by decide +kernel
theorem dX6_occurs_34 : decode cX6_occurs 34 = .ok (.ireturn, 1) := by decide +kernel
theorem dX6_occurrences_0 : decode cX6_occurrences 0 = .ok (.iload_n 1, 1) := by decide +kernel
theorem dX6_occurrences_1 : decode cX6_occurrences 1 = .ok (.invokestatic 139, 3) := by decide +kernel
theorem dX6_occurrences_4 : decode cX6_occurrences 4 = .ok (.ifCond .ne 6, 3) := by decide +kernel
theorem dX6_occurrences_7 : decode cX6_occurrences 7 = .ok (.bipush (-2), 2) := by decide +kernel
theorem dX6_occurrences_9 : decode cX6_occurrences 9 = .ok (.ireturn, 1) := by decide +kernel
theorem dX6_occurrences_10 : decode cX6_occurrences 10 = .ok (.aload_n 0, 1) := by decide +kernel
theorem dX6_occurrences_11 : decode cX6_occurrences 11 = .ok (.iload_n 1, 1) := by decide +kernel
theorem dX6_occurrences_12 : decode cX6_occurrences 12 = .ok (.iload_n 2, 1) := by decide +kernel
theorem dX6_occurrences_13 : decode cX6_occurrences 13 = .ok (.invokevirtual 157, 3) := by decide +kernel
theorem dX6_occurrences_16 : decode cX6_occurrences 16 = .ok (.istore_n 3, 1) := by decide +kernel
theorem dX6_occurrences_17 : decode cX6_occurrences 17 = .ok (.iload_n 3, 1) := by decide +kernel
theorem dX6_occurrences_18 : decode cX6_occurrences 18 = .ok (.ifCond .ne 8, 3) := by decide +kernel
theorem dX6_occurrences_21 : decode cX6_occurrences 21 = .ok (.bipush (-3), 2) := by decide +kernel
theorem dX6_occurrences_23 : decode cX6_occurrences 23 = .ok (.goto 4, 3) := by decide +kernel
theorem dX6_occurrences_26 : decode cX6_occurrences 26 = .ok (.iload_n 3, 1) := by decide +kernel
theorem dX6_occurrences_27 : decode cX6_occurrences 27 = .ok (.ireturn, 1) := by decide +kernel
theorem dX6_better_0 : decode cX6_better 0 = .ok (.aload_n 0, 1) := by decide +kernel
theorem dX6_better_1 : decode cX6_better 1 = .ok (.iload_n 1, 1) := by decide +kernel
theorem dX6_better_2 : decode cX6_better 2 = .ok (.iload 4, 2) := by decide +kernel
theorem dX6_better_4 : decode cX6_better 4 = .ok (.invokestatic 160, 3) := by decide +kernel
theorem dX6_better_7 : decode cX6_better 7 = .ok (.aload_n 2, 1) := by decide +kernel
theorem dX6_better_8 : decode cX6_better 8 = .ok (.iload_n 3, 1) := by decide +kernel
theorem dX6_better_9 : decode cX6_better 9 = .ok (.iload 4, 2) := by decide +kernel
theorem dX6_better_11 : decode cX6_better 11 = .ok (.invokestatic 160, 3) := by decide +kernel
theorem dX6_better_14 : decode cX6_better 14 = .ok (.isub, 1) := by decide +kernel
theorem dX6_better_15 : decode cX6_better 15 = .ok (.istore 5, 2) := by decide +kernel
theorem dX6_better_17 : decode cX6_better 17 = .ok (.iload 5, 2) := by decide +kernel
theorem dX6_better_19 : decode cX6_better 19 = .ok (.ifCond .eq 6, 3) := by decide +kernel
theorem dX6_better_22 : decode cX6_better 22 = .ok (.iload 5, 2) := by decide +kernel
theorem dX6_better_24 : decode cX6_better 24 = .ok (.ireturn, 1) := by decide +kernel
theorem dX6_better_25 : decode cX6_better 25 = .ok (.aload_n 2, 1) := by decide +kernel
theorem dX6_better_26 : decode cX6_better 26 = .ok (.iload_n 3, 1) := by decide +kernel
theorem dX6_better_27 : decode cX6_better 27 = .ok (.iload 4, 2) := by decide +kernel
theorem dX6_better_29 : decode cX6_better 29 = .ok (.invokestatic 150, 3) := by decide +kernel
theorem dX6_better_32 : decode cX6_better 32 = .ok (.aload_n 0, 1) := by decide +kernel
theorem dX6_better_33 : decode cX6_better 33 = .ok (.iload_n 1, 1) := by decide +kernel
theorem dX6_better_34 : decode cX6_better 34 = .ok (.iload 4, 2) := by decide +kernel
theorem dX6_better_36 : decode cX6_better 36 = .ok (.invokestatic 150, 3) := by decide +kernel
theorem dX6_better_39 : decode cX6_better 39 = .ok (.isub, 1) := by decide +kernel
theorem dX6_better_40 : decode cX6_better 40 = .ok (.istore 6, 2) := by decide +kernel
theorem dX6_better_42 : decode cX6_better 42 = .ok (.iconst 0, 1) := by decide +kernel
theorem dX6_better_43 : decode cX6_better 43 = .ok (.istore 7, 2) := by decide +kernel
theorem dX6_better_45 : decode cX6_better 45 = .ok (.iload 7, 2) := by decide +kernel
theorem dX6_better_47 : decode cX6_better 47 = .ok (.iload 4, 2) := by decide +kernel
theorem dX6_better_49 : decode cX6_better 49 = .ok (.if_icmp .ge 29, 3) := by decide +kernel
theorem dX6_better_52 : decode cX6_better 52 = .ok (.iload 6, 2) := by decide +kernel
theorem dX6_better_54 : decode cX6_better 54 = .ok (.ifCond .ne 24, 3) := by decide +kernel
theorem dX6_better_57 : decode cX6_better 57 = .ok (.aload_n 2, 1) := by decide +kernel
theorem dX6_better_58 : decode cX6_better 58 = .ok (.iload_n 3, 1) := by decide +kernel
theorem dX6_better_59 : decode cX6_better 59 = .ok (.iload 7, 2) := by decide +kernel
theorem dX6_better_61 : decode cX6_better 61 = .ok (.iadd, 1) := by decide +kernel
theorem dX6_better_62 : decode cX6_better 62 = .ok (.iaload, 1) := by decide +kernel
theorem dX6_better_63 : decode cX6_better 63 = .ok (.aload_n 0, 1) := by decide +kernel
theorem dX6_better_64 : decode cX6_better 64 = .ok (.iload_n 1, 1) := by decide +kernel
theorem dX6_better_65 : decode cX6_better 65 = .ok (.iload 7, 2) := by decide +kernel
theorem dX6_better_67 : decode cX6_better 67 = .ok (.iadd, 1) := by decide +kernel
theorem dX6_better_68 : decode cX6_better 68 = .ok (.iaload, 1) := by decide +kernel
theorem dX6_better_69 : decode cX6_better 69 = .ok (.isub, 1) := by decide +kernel
theorem dX6_better_70 : decode cX6_better 70 = .ok (.istore 6, 2) := by decide +kernel
theorem dX6_better_72 : decode cX6_better 72 = .ok (.iinc 7 1, 3) := by decide +kernel
theorem dX6_better_75 : decode cX6_better 75 = .ok (.goto (-30), 3) := by decide +kernel
theorem dX6_better_78 : decode cX6_better 78 = .ok (.iload 6, 2) := by decide +kernel
theorem dX6_better_80 : decode cX6_better 80 = .ok (.ireturn, 1) := by decide +kernel
theorem dX6_compareQuality_0 : decode cX6_compareQuality 0 = .ok (.iload_n 1, 1) := by decide +kernel
theorem dX6_compareQuality_1 : decode cX6_compareQuality 1 = .ok (.invokestatic 139, 3) := by decide +kernel
theorem dX6_compareQuality_4 : decode cX6_compareQuality 4 = .ok (.ifCond .eq 10, 3) := by decide +kernel
theorem dX6_compareQuality_7 : decode cX6_compareQuality 7 = .ok (.iload_n 2, 1) := by decide +kernel
theorem dX6_compareQuality_8 : decode cX6_compareQuality 8 = .ok (.invokestatic 139, 3) := by decide +kernel
theorem dX6_compareQuality_11 : decode cX6_compareQuality 11 = .ok (.ifCond .ne 6, 3) := by decide +kernel
theorem dX6_compareQuality_14 : decode cX6_compareQuality 14 = .ok (.bipush (-2), 2) := by decide +kernel
theorem dX6_compareQuality_16 : decode cX6_compareQuality 16 = .ok (.ireturn, 1) := by decide +kernel
theorem dX6_compareQuality_17 : decode cX6_compareQuality 17 = .ok (.aload_n 0, 1) := by decide +kernel
theorem dX6_compareQuality_18 : decode cX6_compareQuality 18 = .ok (.getfield 19, 3) := by decide +kernel
theorem dX6_compareQuality_21 : decode cX6_compareQuality 21 = .ok (.iload_n 1, 1) := by decide +kernel
theorem dX6_compareQuality_22 : decode cX6_compareQuality 22 = .ok (.iaload, 1) := by decide +kernel
theorem dX6_compareQuality_23 : decode cX6_compareQuality 23 = .ok (.aload_n 0, 1) := by decide +kernel
theorem dX6_compareQuality_24 : decode cX6_compareQuality 24 = .ok (.getfield 19, 3) := by decide +kernel
theorem dX6_compareQuality_27 : decode cX6_compareQuality 27 = .ok (.iload_n 2, 1) := by decide +kernel
theorem dX6_compareQuality_28 : decode cX6_compareQuality 28 = .ok (.iaload, 1) := by decide +kernel
theorem dX6_compareQuality_29 : decode cX6_compareQuality 29 = .ok (.isub, 1) := by decide +kernel
theorem dX6_compareQuality_30 : decode cX6_compareQuality 30 = .ok (.istore_n 3, 1) := by decide +kernel
theorem dX6_compareQuality_31 : decode cX6_compareQuality 31 = .ok (.iload_n 3, 1) := by decide +kernel
theorem dX6_compareQuality_32 : decode cX6_compareQuality 32 = .ok (.ifCond .eq 7, 3) := by decide +kernel
theorem dX6_compareQuality_35 : decode cX6_compareQuality 35 = .ok (.iload_n 3, 1) := by decide +kernel
theorem dX6_compareQuality_36 : decode cX6_compareQuality 36 = .ok (.goto 28, 3) := by decide +kernel
theorem dX6_compareQuality_39 : decode cX6_compareQuality 39 = .ok (.aload_n 0, 1) := by decide +kernel
theorem dX6_compareQuality_40 : decode cX6_compareQuality 40 = .ok (.getfield 15, 3) := by decide +kernel
theorem dX6_compareQuality_43 : decode cX6_compareQuality 43 = .ok (.bipush 8, 2) := by decide +kernel
theorem dX6_compareQuality_45 : decode cX6_compareQuality 45 = .ok (.iload_n 1, 1) := by decide +kernel
theorem dX6_compareQuality_46 : decode cX6_compareQuality 46 = .ok (.imul, 1) := by decide +kernel
theorem dX6_compareQuality_47 : decode cX6_compareQuality 47 = .ok (.aload_n 0, 1) := by decide +kernel
theorem dX6_compareQuality_48 : decode cX6_compareQuality 48 = .ok (.getfield 15, 3) := by decide +kernel
theorem dX6_compareQuality_51 : decode cX6_compareQuality 51 = .ok (.bipush 8, 2) := by decide +kernel
theorem dX6_compareQuality_53 : decode cX6_compareQuality 53 = .ok (.iload_n 2, 1) := by decide +kernel
theorem dX6_compareQuality_54 : decode cX6_compareQuality 54 = .ok (.imul, 1) := by decide +kernel
theorem dX6_compareQuality_55 : decode cX6_compareQuality 55 = .ok (.aload_n 0, 1) := by decide +kernel
theorem dX6_compareQuality_56 : decode cX6_compareQuality 56 = .ok (.getfield 19, 3) := by decide +kernel
theorem dX6_compareQuality_59 : decode cX6_compareQuality 59 = .ok (.iload_n 1, 1) := by decide +kernel
theorem dX6_compareQuality_60 : decode cX6_compareQuality 60 = .ok (.iaload, 1) := by decide +kernel
theorem dX6_compareQuality_61 : decode cX6_compareQuality 61 = .ok (.invokestatic 163, 3) := by decide +kernel
theorem dX6_compareQuality_64 : decode cX6_compareQuality 64 = .ok (.istore_n 3, 1) := by decide +kernel
theorem dX6_compareQuality_65 : decode cX6_compareQuality 65 = .ok (.iload_n 3, 1) := by decide +kernel
theorem dX6_compareQuality_66 : decode cX6_compareQuality 66 = .ok (.ifCond .le 7, 3) := by decide +kernel
theorem dX6_compareQuality_69 : decode cX6_compareQuality 69 = .ok (.iconst 2, 1) := by decide +kernel
theorem dX6_compareQuality_70 : decode cX6_compareQuality 70 = .ok (.goto 12, 3) := by decide +kernel
theorem dX6_compareQuality_73 : decode cX6_compareQuality 73 = .ok (.iload_n 3, 1) := by decide +kernel
theorem dX6_compareQuality_74 : decode cX6_compareQuality 74 = .ok (.ifCond .ne 7, 3) := by decide +kernel
theorem dX6_compareQuality_77 : decode cX6_compareQuality 77 = .ok (.iconst 1, 1) := by decide +kernel
theorem dX6_compareQuality_78 : decode cX6_compareQuality 78 = .ok (.goto 4, 3) := by decide +kernel
theorem dX6_compareQuality_81 : decode cX6_compareQuality 81 = .ok (.iconst 0, 1) := by decide +kernel
theorem dX6_compareQuality_82 : decode cX6_compareQuality 82 = .ok (.ireturn, 1) := by decide +kernel
theorem dX6_exchange_0 : decode cX6_exchange 0 = .ok (.bipush 8, 2) := by decide +kernel
theorem dX6_exchange_2 : decode cX6_exchange 2 = .ok (.iload_n 1, 1) := by decide +kernel
theorem dX6_exchange_3 : decode cX6_exchange 3 = .ok (.imul, 1) := by decide +kernel
theorem dX6_exchange_4 : decode cX6_exchange 4 = .ok (.istore 4, 2) := by decide +kernel
theorem dX6_exchange_6 : decode cX6_exchange 6 = .ok (.iload 4, 2) := by decide +kernel
theorem dX6_exchange_8 : decode cX6_exchange 8 = .ok (.bipush 8, 2) := by decide +kernel
theorem dX6_exchange_10 : decode cX6_exchange 10 = .ok (.iload_n 1, 1) := by decide +kernel
theorem dX6_exchange_11 : decode cX6_exchange 11 = .ok (.imul, 1) := by decide +kernel
theorem dX6_exchange_12 : decode cX6_exchange 12 = .ok (.aload_n 0, 1) := by decide +kernel
theorem dX6_exchange_13 : decode cX6_exchange 13 = .ok (.getfield 19, 3) := by decide +kernel
theorem dX6_exchange_16 : decode cX6_exchange 16 = .ok (.iload_n 1, 1) := by decide +kernel
theorem dX6_exchange_17 : decode cX6_exchange 17 = .ok (.iaload, 1) := by decide +kernel
theorem dX6_exchange_18 : decode cX6_exchange 18 = .ok (.iadd, 1) := by decide +kernel
theorem dX6_exchange_19 : decode cX6_exchange 19 = .ok (.if_icmp .ge 38, 3) := by decide +kernel
theorem dX6_exchange_22 : decode cX6_exchange 22 = .ok (.aload_n 0, 1) := by decide +kernel
theorem dX6_exchange_23 : decode cX6_exchange 23 = .ok (.getfield 15, 3) := by decide +kernel
theorem dX6_exchange_26 : decode cX6_exchange 26 = .ok (.iload 4, 2) := by decide +kernel
theorem dX6_exchange_28 : decode cX6_exchange 28 = .ok (.aload_n 0, 1) := by decide +kernel
theorem dX6_exchange_29 : decode cX6_exchange 29 = .ok (.getfield 15, 3) := by decide +kernel
theorem dX6_exchange_32 : decode cX6_exchange 32 = .ok (.iload 4, 2) := by decide +kernel
theorem dX6_exchange_34 : decode cX6_exchange 34 = .ok (.iaload, 1) := by decide +kernel
theorem dX6_exchange_35 : decode cX6_exchange 35 = .ok (.iload_n 2, 1) := by decide +kernel
theorem dX6_exchange_36 : decode cX6_exchange 36 = .ok (.if_icmp .ne 7, 3) := by decide +kernel
theorem dX6_exchange_39 : decode cX6_exchange 39 = .ok (.iload_n 3, 1) := by decide +kernel
theorem dX6_exchange_40 : decode cX6_exchange 40 = .ok (.goto 10, 3) := by decide +kernel
theorem dX6_exchange_43 : decode cX6_exchange 43 = .ok (.aload_n 0, 1) := by decide +kernel
theorem dX6_exchange_44 : decode cX6_exchange 44 = .ok (.getfield 15, 3) := by decide +kernel
theorem dX6_exchange_47 : decode cX6_exchange 47 = .ok (.iload 4, 2) := by decide +kernel
theorem dX6_exchange_49 : decode cX6_exchange 49 = .ok (.iaload, 1) := by decide +kernel
theorem dX6_exchange_50 : decode cX6_exchange 50 = .ok (.iastore, 1) := by decide +kernel
theorem dX6_exchange_51 : decode cX6_exchange 51 = .ok (.iinc 4 1, 3) := by decide +kernel
theorem dX6_exchange_54 : decode cX6_exchange 54 = .ok (.goto (-48), 3) := by decide +kernel
theorem dX6_exchange_57 : decode cX6_exchange 57 = .ok (.aload_n 0, 1) := by decide +kernel
theorem dX6_exchange_58 : decode cX6_exchange 58 = .ok (.iload_n 1, 1) := by decide +kernel
theorem dX6_exchange_59 : decode cX6_exchange 59 = .ok (.invokevirtual 131, 3) := by decide +kernel
theorem dX6_exchange_62 : decode cX6_exchange 62 = .ok (.aload_n 0, 1) := by decide +kernel
theorem dX6_exchange_63 : decode cX6_exchange 63 = .ok (.iload_n 1, 1) := by decide +kernel
theorem dX6_exchange_64 : decode cX6_exchange 64 = .ok (.invokevirtual 154, 3) := by decide +kernel
theorem dX6_exchange_67 : decode cX6_exchange 67 = .ok (.ireturn, 1) := by decide +kernel
theorem dX6_replace_0 : decode cX6_replace 0 = .ok (.iload_n 1, 1) := by decide +kernel
theorem dX6_replace_1 : decode cX6_replace 1 = .ok (.invokestatic 139, 3) := by decide +kernel
theorem dX6_replace_4 : decode cX6_replace 4 = .ok (.ifCond .ne 6, 3) := by decide +kernel
theorem dX6_replace_7 : decode cX6_replace 7 = .ok (.bipush (-2), 2) := by decide +kernel
theorem dX6_replace_9 : decode cX6_replace 9 = .ok (.ireturn, 1) := by decide +kernel
theorem dX6_replace_10 : decode cX6_replace 10 = .ok (.aload_n 0, 1) := by decide +kernel
theorem dX6_replace_11 : decode cX6_replace 11 = .ok (.iload_n 1, 1) := by decide +kernel
theorem dX6_replace_12 : decode cX6_replace 12 = .ok (.iload_n 2, 1) := by decide +kernel
theorem dX6_replace_13 : decode cX6_replace 13 = .ok (.invokevirtual 157, 3) := by decide +kernel
theorem dX6_replace_16 : decode cX6_replace 16 = .ok (.ifCond .ne 6, 3) := by decide +kernel
theorem dX6_replace_19 : decode cX6_replace 19 = .ok (.bipush (-3), 2) := by decide +kernel
theorem dX6_replace_21 : decode cX6_replace 21 = .ok (.ireturn, 1) := by decide +kernel
theorem dX6_replace_22 : decode cX6_replace 22 = .ok (.iload_n 3, 1) := by decide +kernel
theorem dX6_replace_23 : decode cX6_replace 23 = .ok (.iconst 0, 1) := by decide +kernel
theorem dX6_replace_24 : decode cX6_replace 24 = .ok (.aload_n 0, 1) := by decide +kernel
theorem dX6_replace_25 : decode cX6_replace 25 = .ok (.getfield 9, 3) := by decide +kernel
theorem dX6_replace_28 : decode cX6_replace 28 = .ok (.iconst 1, 1) := by decide +kernel
theorem dX6_replace_29 : decode cX6_replace 29 = .ok (.isub, 1) := by decide +kernel
theorem dX6_replace_30 : decode cX6_replace 30 = .ok (.invokestatic 101, 3) := by decide +kernel
theorem dX6_replace_33 : decode cX6_replace 33 = .ok (.ifCond .eq 16, 3) := by decide +kernel
theorem dX6_replace_36 : decode cX6_replace 36 = .ok (.aload_n 0, 1) := by decide +kernel
theorem dX6_replace_37 : decode cX6_replace 37 = .ok (.iload_n 1, 1) := by decide +kernel
theorem dX6_replace_38 : decode cX6_replace 38 = .ok (.bipush 10, 2) := by decide +kernel
theorem dX6_replace_40 : decode cX6_replace 40 = .ok (.iload_n 2, 1) := by decide +kernel
theorem dX6_replace_41 : decode cX6_replace 41 = .ok (.iadd, 1) := by decide +kernel
theorem dX6_replace_42 : decode cX6_replace 42 = .ok (.iload_n 3, 1) := by decide +kernel
theorem dX6_replace_43 : decode cX6_replace 43 = .ok (.invokevirtual 167, 3) := by decide +kernel
theorem dX6_replace_46 : decode cX6_replace 46 = .ok (.goto 4, 3) := by decide +kernel
theorem dX6_replace_49 : decode cX6_replace 49 = .ok (.iconst (-1), 1) := by decide +kernel
theorem dX6_replace_50 : decode cX6_replace 50 = .ok (.ireturn, 1) := by decide +kernel
theorem dX6_merge_0 : decode cX6_merge 0 = .ok (.iload_n 1, 1) := by decide +kernel
theorem dX6_merge_1 : decode cX6_merge 1 = .ok (.invokestatic 139, 3) := by decide +kernel
theorem dX6_merge_4 : decode cX6_merge 4 = .ok (.ifCond .ne 6, 3) := by decide +kernel
theorem dX6_merge_7 : decode cX6_merge 7 = .ok (.bipush (-2), 2) := by decide +kernel
theorem dX6_merge_9 : decode cX6_merge 9 = .ok (.ireturn, 1) := by decide +kernel
theorem dX6_merge_10 : decode cX6_merge 10 = .ok (.aload_n 0, 1) := by decide +kernel
theorem dX6_merge_11 : decode cX6_merge 11 = .ok (.iload_n 1, 1) := by decide +kernel
theorem dX6_merge_12 : decode cX6_merge 12 = .ok (.iload_n 2, 1) := by decide +kernel
theorem dX6_merge_13 : decode cX6_merge 13 = .ok (.invokevirtual 157, 3) := by decide +kernel
theorem dX6_merge_16 : decode cX6_merge 16 = .ok (.ifCond .eq 12, 3) := by decide +kernel
theorem dX6_merge_19 : decode cX6_merge 19 = .ok (.aload_n 0, 1) := by decide +kernel
theorem dX6_merge_20 : decode cX6_merge 20 = .ok (.iload_n 1, 1) := by decide +kernel
theorem dX6_merge_21 : decode cX6_merge 21 = .ok (.iload_n 3, 1) := by decide +kernel
theorem dX6_merge_22 : decode cX6_merge 22 = .ok (.invokevirtual 157, 3) := by decide +kernel
theorem dX6_merge_25 : decode cX6_merge 25 = .ok (.ifCond .ne 6, 3) := by decide +kernel
theorem dX6_merge_28 : decode cX6_merge 28 = .ok (.bipush (-3), 2) := by decide +kernel
theorem dX6_merge_30 : decode cX6_merge 30 = .ok (.ireturn, 1) := by decide +kernel
theorem dX6_merge_31 : decode cX6_merge 31 = .ok (.iload_n 2, 1) := by decide +kernel
theorem dX6_merge_32 : decode cX6_merge 32 = .ok (.iload_n 3, 1) := by decide +kernel
theorem dX6_merge_33 : decode cX6_merge 33 = .ok (.if_icmp .ne 7, 3) := by decide +kernel
theorem dX6_merge_36 : decode cX6_merge 36 = .ok (.iconst (-1), 1) := by decide +kernel
theorem dX6_merge_37 : decode cX6_merge 37 = .ok (.goto 16, 3) := by decide +kernel
theorem dX6_merge_40 : decode cX6_merge 40 = .ok (.aload_n 0, 1) := by decide +kernel
theorem dX6_merge_41 : decode cX6_merge 41 = .ok (.iload_n 1, 1) := by decide +kernel
theorem dX6_merge_42 : decode cX6_merge 42 = .ok (.bipush 10, 2) := by decide +kernel
theorem dX6_merge_44 : decode cX6_merge 44 = .ok (.iload_n 2, 1) := by decide +kernel
theorem dX6_merge_45 : decode cX6_merge 45 = .ok (.iadd, 1) := by decide +kernel
theorem dX6_merge_46 : decode cX6_merge 46 = .ok (.bipush 10, 2) := by decide +kernel
theorem dX6_merge_48 : decode cX6_merge 48 = .ok (.iload_n 3, 1) := by decide +kernel
theorem dX6_merge_49 : decode cX6_merge 49 = .ok (.iadd, 1) := by decide +kernel
theorem dX6_merge_50 : decode cX6_merge 50 = .ok (.invokevirtual 167, 3) := by decide +kernel
theorem dX6_merge_53 : decode cX6_merge 53 = .ok (.ireturn, 1) := by decide +kernel
theorem dX6_split_0 : decode cX6_split 0 = .ok (.iload_n 1, 1) := by decide +kernel
theorem dX6_split_1 : decode cX6_split 1 = .ok (.invokestatic 139, 3) := by decide +kernel
theorem dX6_split_4 : decode cX6_split 4 = .ok (.ifCond .ne 6, 3) := by decide +kernel
theorem dX6_split_7 : decode cX6_split 7 = .ok (.bipush (-2), 2) := by decide +kernel
theorem dX6_split_9 : decode cX6_split 9 = .ok (.ireturn, 1) := by decide +kernel
theorem dX6_split_10 : decode cX6_split 10 = .ok (.aload_n 0, 1) := by decide +kernel
theorem dX6_split_11 : decode cX6_split 11 = .ok (.iload_n 1, 1) := by decide +kernel
theorem dX6_split_12 : decode cX6_split 12 = .ok (.iload_n 2, 1) := by decide +kernel
theorem dX6_split_13 : decode cX6_split 13 = .ok (.invokevirtual 157, 3) := by decide +kernel
theorem dX6_split_16 : decode cX6_split 16 = .ok (.istore_n 3, 1) := by decide +kernel
theorem dX6_split_17 : decode cX6_split 17 = .ok (.iload_n 3, 1) := by decide +kernel
theorem dX6_split_18 : decode cX6_split 18 = .ok (.ifCond .ne 6, 3) := by decide +kernel
theorem dX6_split_21 : decode cX6_split 21 = .ok (.bipush (-3), 2) := by decide +kernel
theorem dX6_split_23 : decode cX6_split 23 = .ok (.ireturn, 1) := by decide +kernel
theorem dX6_split_24 : decode cX6_split 24 = .ok (.aload_n 0, 1) := by decide +kernel
theorem dX6_split_25 : decode cX6_split 25 = .ok (.iload_n 1, 1) := by decide +kernel
theorem dX6_split_26 : decode cX6_split 26 = .ok (.invokevirtual 154, 3) := by decide +kernel
theorem dX6_split_29 : decode cX6_split 29 = .ok (.iconst 4, 1) := by decide +kernel
theorem dX6_split_30 : decode cX6_split 30 = .ok (.if_icmp .eq 16, 3) := by decide +kernel
theorem dX6_split_33 : decode cX6_split 33 = .ok (.aload_n 0, 1) := by decide +kernel
theorem dX6_split_34 : decode cX6_split 34 = .ok (.getfield 19, 3) := by decide +kernel
theorem dX6_split_37 : decode cX6_split 37 = .ok (.iload_n 1, 1) := by decide +kernel
theorem dX6_split_38 : decode cX6_split 38 = .ok (.iaload, 1) := by decide +kernel
theorem dX6_split_39 : decode cX6_split 39 = .ok (.iload_n 3, 1) := by decide +kernel
theorem dX6_split_40 : decode cX6_split 40 = .ok (.iadd, 1) := by decide +kernel
theorem dX6_split_41 : decode cX6_split 41 = .ok (.bipush 8, 2) := by decide +kernel
theorem dX6_split_43 : decode cX6_split 43 = .ok (.if_icmp .le 6, 3) := by decide +kernel
theorem dX6_split_46 : decode cX6_split 46 = .ok (.bipush (-4), 2) := by decide +kernel
theorem dX6_split_48 : decode cX6_split 48 = .ok (.ireturn, 1) := by decide +kernel
theorem dX6_split_49 : decode cX6_split 49 = .ok (.bipush 10, 2) := by decide +kernel
theorem dX6_split_51 : decode cX6_split 51 = .ok (.aload_n 0, 1) := by decide +kernel
theorem dX6_split_52 : decode cX6_split 52 = .ok (.iload_n 1, 1) := by decide +kernel
theorem dX6_split_53 : decode cX6_split 53 = .ok (.invokevirtual 154, 3) := by decide +kernel
theorem dX6_split_56 : decode cX6_split 56 = .ok (.iadd, 1) := by decide +kernel
theorem dX6_split_57 : decode cX6_split 57 = .ok (.istore 4, 2) := by decide +kernel
theorem dX6_split_59 : decode cX6_split 59 = .ok (.aload_n 0, 1) := by decide +kernel
theorem dX6_split_60 : decode cX6_split 60 = .ok (.iconst 0, 1) := by decide +kernel
theorem dX6_split_61 : decode cX6_split 61 = .ok (.putfield 112, 3) := by decide +kernel
theorem dX6_split_64 : decode cX6_split 64 = .ok (.bipush 8, 2) := by decide +kernel
theorem dX6_split_66 : decode cX6_split 66 = .ok (.iload_n 1, 1) := by decide +kernel
theorem dX6_split_67 : decode cX6_split 67 = .ok (.imul, 1) := by decide +kernel
theorem dX6_split_68 : decode cX6_split 68 = .ok (.istore 5, 2) := by decide +kernel
theorem dX6_split_70 : decode cX6_split 70 = .ok (.iload 5, 2) := by decide +kernel
theorem dX6_split_72 : decode cX6_split 72 = .ok (.bipush 8, 2) := by decide +kernel
theorem dX6_split_74 : decode cX6_split 74 = .ok (.iload_n 1, 1) := by decide +kernel
theorem dX6_split_75 : decode cX6_split 75 = .ok (.imul, 1) := by decide +kernel
theorem dX6_split_76 : decode cX6_split 76 = .ok (.aload_n 0, 1) := by decide +kernel
theorem dX6_split_77 : decode cX6_split 77 = .ok (.getfield 19, 3) := by decide +kernel
theorem dX6_split_80 : decode cX6_split 80 = .ok (.iload_n 1, 1) := by decide +kernel
theorem dX6_split_81 : decode cX6_split 81 = .ok (.iaload, 1) := by decide +kernel
theorem dX6_split_82 : decode cX6_split 82 = .ok (.iadd, 1) := by decide +kernel
theorem dX6_split_83 : decode cX6_split 83 = .ok (.if_icmp .ge 70, 3) := by decide +kernel
theorem dX6_split_86 : decode cX6_split 86 = .ok (.aload_n 0, 1) := by decide +kernel
theorem dX6_split_87 : decode cX6_split 87 = .ok (.getfield 37, 3) := by decide +kernel
theorem dX6_split_90 : decode cX6_split 90 = .ok (.aload_n 0, 1) := by decide +kernel
theorem dX6_split_91 : decode cX6_split 91 = .ok (.getfield 112, 3) := by decide +kernel
theorem dX6_split_94 : decode cX6_split 94 = .ok (.aload_n 0, 1) := by decide +kernel
theorem dX6_split_95 : decode cX6_split 95 = .ok (.getfield 15, 3) := by decide +kernel
theorem dX6_split_98 : decode cX6_split 98 = .ok (.iload 5, 2) := by decide +kernel
theorem dX6_split_100 : decode cX6_split 100 = .ok (.iaload, 1) := by decide +kernel
theorem dX6_split_101 : decode cX6_split 101 = .ok (.iastore, 1) := by decide +kernel
theorem dX6_split_102 : decode cX6_split 102 = .ok (.aload_n 0, 1) := by decide +kernel
theorem dX6_split_103 : decode cX6_split 103 = .ok (.dup, 1) := by decide +kernel
theorem dX6_split_104 : decode cX6_split 104 = .ok (.getfield 112, 3) := by decide +kernel
theorem dX6_split_107 : decode cX6_split 107 = .ok (.iconst 1, 1) := by decide +kernel
theorem dX6_split_108 : decode cX6_split 108 = .ok (.iadd, 1) := by decide +kernel
theorem dX6_split_109 : decode cX6_split 109 = .ok (.putfield 112, 3) := by decide +kernel
theorem dX6_split_112 : decode cX6_split 112 = .ok (.aload_n 0, 1) := by decide +kernel
theorem dX6_split_113 : decode cX6_split 113 = .ok (.getfield 15, 3) := by decide +kernel
theorem dX6_split_116 : decode cX6_split 116 = .ok (.iload 5, 2) := by decide +kernel
theorem dX6_split_118 : decode cX6_split 118 = .ok (.iaload, 1) := by decide +kernel
theorem dX6_split_119 : decode cX6_split 119 = .ok (.bipush 10, 2) := by decide +kernel
theorem dX6_split_121 : decode cX6_split 121 = .ok (.iload_n 2, 1) := by decide +kernel
theorem dX6_split_122 : decode cX6_split 122 = .ok (.iadd, 1) := by decide +kernel
theorem dX6_split_123 : decode cX6_split 123 = .ok (.if_icmp .ne 24, 3) := by decide +kernel
theorem dX6_split_126 : decode cX6_split 126 = .ok (.aload_n 0, 1) := by decide +kernel
theorem dX6_split_127 : decode cX6_split 127 = .ok (.getfield 37, 3) := by decide +kernel
theorem dX6_split_130 : decode cX6_split 130 = .ok (.aload_n 0, 1) := by decide +kernel
theorem dX6_split_131 : decode cX6_split 131 = .ok (.getfield 112, 3) := by decide +kernel
theorem dX6_split_134 : decode cX6_split 134 = .ok (.iload 4, 2) := by decide +kernel
theorem dX6_split_136 : decode cX6_split 136 = .ok (.iastore, 1) := by decide +kernel
theorem dX6_split_137 : decode cX6_split 137 = .ok (.aload_n 0, 1) := by decide +kernel
theorem dX6_split_138 : decode cX6_split 138 = .ok (.dup, 1) := by decide +kernel
theorem dX6_split_139 : decode cX6_split 139 = .ok (.getfield 112, 3) := by decide +kernel
theorem dX6_split_142 : decode cX6_split 142 = .ok (.iconst 1, 1) := by decide +kernel
theorem dX6_split_143 : decode cX6_split 143 = .ok (.iadd, 1) := by decide +kernel
theorem dX6_split_144 : decode cX6_split 144 = .ok (.putfield 112, 3) := by decide +kernel
theorem dX6_split_147 : decode cX6_split 147 = .ok (.iinc 5 1, 3) := by decide +kernel
theorem dX6_split_150 : decode cX6_split 150 = .ok (.goto (-80), 3) := by decide +kernel
theorem dX6_split_153 : decode cX6_split 153 = .ok (.aload_n 0, 1) := by decide +kernel
theorem dX6_split_154 : decode cX6_split 154 = .ok (.iload_n 1, 1) := by decide +kernel
theorem dX6_split_155 : decode cX6_split 155 = .ok (.invokevirtual 143, 3) := by decide +kernel
theorem dX6_split_158 : decode cX6_split 158 = .ok (.ireturn, 1) := by decide +kernel
theorem dX6_transform_0 : decode cX6_transform 0 = .ok (.aload_n 0, 1) := by decide +kernel
theorem dX6_transform_1 : decode cX6_transform 1 = .ok (.ldc 171, 2) := by decide +kernel
theorem dX6_transform_3 : decode cX6_transform 3 = .ok (.invokevirtual 173, 3) := by decide +kernel
theorem dX6_transform_6 : decode cX6_transform 6 = .ok (.ifCond .eq 7, 3) := by decide +kernel
theorem dX6_transform_9 : decode cX6_transform 9 = .ok (.iconst 0, 1) := by decide +kernel
theorem dX6_transform_10 : decode cX6_transform 10 = .ok (.goto 56, 3) := by decide +kernel
theorem dX6_transform_13 : decode cX6_transform 13 = .ok (.aload_n 0, 1) := by decide +kernel
theorem dX6_transform_14 : decode cX6_transform 14 = .ok (.ldc 177, 2) := by decide +kernel
theorem dX6_transform_16 : decode cX6_transform 16 = .ok (.invokevirtual 173, 3) := by decide +kernel
theorem dX6_transform_19 : decode cX6_transform 19 = .ok (.ifCond .eq 7, 3) := by decide +kernel
theorem dX6_transform_22 : decode cX6_transform 22 = .ok (.iconst 1, 1) := by decide +kernel
theorem dX6_transform_23 : decode cX6_transform 23 = .ok (.goto 43, 3) := by decide +kernel
theorem dX6_transform_26 : decode cX6_transform 26 = .ok (.aload_n 0, 1) := by decide +kernel
theorem dX6_transform_27 : decode cX6_transform 27 = .ok (.ldc 179, 2) := by decide +kernel
theorem dX6_transform_29 : decode cX6_transform 29 = .ok (.invokevirtual 173, 3) := by decide +kernel
theorem dX6_transform_32 : decode cX6_transform 32 = .ok (.ifCond .eq 7, 3) := by decide +kernel
theorem dX6_transform_35 : decode cX6_transform 35 = .ok (.iconst 2, 1) := by decide +kernel
theorem dX6_transform_36 : decode cX6_transform 36 = .ok (.goto 30, 3) := by decide +kernel
theorem dX6_transform_39 : decode cX6_transform 39 = .ok (.aload_n 0, 1) := by decide +kernel
theorem dX6_transform_40 : decode cX6_transform 40 = .ok (.ldc 181, 2) := by decide +kernel
theorem dX6_transform_42 : decode cX6_transform 42 = .ok (.invokevirtual 173, 3) := by decide +kernel
theorem dX6_transform_45 : decode cX6_transform 45 = .ok (.ifCond .eq 7, 3) := by decide +kernel
theorem dX6_transform_48 : decode cX6_transform 48 = .ok (.iconst 3, 1) := by decide +kernel
theorem dX6_transform_49 : decode cX6_transform 49 = .ok (.goto 17, 3) := by decide +kernel
theorem dX6_transform_52 : decode cX6_transform 52 = .ok (.aload_n 0, 1) := by decide +kernel
theorem dX6_transform_53 : decode cX6_transform 53 = .ok (.ldc 183, 2) := by decide +kernel
theorem dX6_transform_55 : decode cX6_transform 55 = .ok (.invokevirtual 173, 3) := by decide +kernel
theorem dX6_transform_58 : decode cX6_transform 58 = .ok (.ifCond .eq 7, 3) := by decide +kernel
theorem dX6_transform_61 : decode cX6_transform 61 = .ok (.iconst 4, 1) := by decide +kernel
theorem dX6_transform_62 : decode cX6_transform 62 = .ok (.goto 4, 3) := by decide +kernel
theorem dX6_transform_65 : decode cX6_transform 65 = .ok (.iconst (-1), 1) := by decide +kernel
theorem dX6_transform_66 : decode cX6_transform 66 = .ok (.istore_n 2, 1) := by decide +kernel
theorem dX6_transform_67 : decode cX6_transform 67 = .ok (.aload_n 0, 1) := by decide +kernel
theorem dX6_transform_68 : decode cX6_transform 68 = .ok (.iconst 0, 1) := by decide +kernel
theorem dX6_transform_69 : decode cX6_transform 69 = .ok (.putfield 105, 3) := by decide +kernel
theorem dX6_transform_72 : decode cX6_transform 72 = .ok (.iload_n 1, 1) := by decide +kernel
theorem dX6_transform_73 : decode cX6_transform 73 = .ok (.invokestatic 139, 3) := by decide +kernel
theorem dX6_transform_76 : decode cX6_transform 76 = .ok (.ifCond .ne 6, 3) := by decide +kernel
theorem dX6_transform_79 : decode cX6_transform 79 = .ok (.bipush (-2), 2) := by decide +kernel
theorem dX6_transform_81 : decode cX6_transform 81 = .ok (.ireturn, 1) := by decide +kernel
theorem dX6_transform_82 : decode cX6_transform 82 = .ok (.iload_n 2, 1) := by decide +kernel
theorem dX6_transform_83 : decode cX6_transform 83 = .ok (.ifCond .ge 6, 3) := by decide +kernel
theorem dX6_transform_86 : decode cX6_transform 86 = .ok (.bipush (-5), 2) := by decide +kernel
theorem dX6_transform_88 : decode cX6_transform 88 = .ok (.ireturn, 1) := by decide +kernel
theorem dX6_transform_89 : decode cX6_transform 89 = .ok (.aload_n 0, 1) := by decide +kernel
theorem dX6_transform_90 : decode cX6_transform 90 = .ok (.getfield 19, 3) := by decide +kernel
theorem dX6_transform_93 : decode cX6_transform 93 = .ok (.iload_n 1, 1) := by decide +kernel
theorem dX6_transform_94 : decode cX6_transform 94 = .ok (.iaload, 1) := by decide +kernel
theorem dX6_transform_95 : decode cX6_transform 95 = .ok (.istore_n 3, 1) := by decide +kernel
theorem dX6_transform_96 : decode cX6_transform 96 = .ok (.aload_n 0, 1) := by decide +kernel
theorem dX6_transform_97 : decode cX6_transform 97 = .ok (.iload_n 2, 1) := by decide +kernel
theorem dX6_transform_98 : decode cX6_transform 98 = .ok (.iconst 2, 1) := by decide +kernel
theorem dX6_transform_99 : decode cX6_transform 99 = .ok (.if_icmp .ne 14, 3) := by decide +kernel
theorem dX6_transform_102 : decode cX6_transform 102 = .ok (.iload_n 3, 1) := by decide +kernel
theorem dX6_transform_103 : decode cX6_transform 103 = .ok (.iconst 1, 1) := by decide +kernel
theorem dX6_transform_104 : decode cX6_transform 104 = .ok (.if_icmp .le 9, 3) := by decide +kernel
theorem dX6_transform_107 : decode cX6_transform 107 = .ok (.iload_n 3, 1) := by decide +kernel
theorem dX6_transform_108 : decode cX6_transform 108 = .ok (.iconst 1, 1) := by decide +kernel
theorem dX6_transform_109 : decode cX6_transform 109 = .ok (.isub, 1) := by decide +kernel
theorem dX6_transform_110 : decode cX6_transform 110 = .ok (.goto 4, 3) := by decide +kernel
theorem dX6_transform_113 : decode cX6_transform 113 = .ok (.iload_n 3, 1) := by decide +kernel
theorem dX6_transform_114 : decode cX6_transform 114 = .ok (.putfield 112, 3) := by decide +kernel
theorem dX6_transform_117 : decode cX6_transform 117 = .ok (.iconst 0, 1) := by decide +kernel
theorem dX6_transform_118 : decode cX6_transform 118 = .ok (.istore 4, 2) := by decide +kernel
theorem dX6_transform_120 : decode cX6_transform 120 = .ok (.iload 4, 2) := by decide +kernel
theorem dX6_transform_122 : decode cX6_transform 122 = .ok (.aload_n 0, 1) := by decide +kernel
theorem dX6_transform_123 : decode cX6_transform 123 = .ok (.getfield 112, 3) := by decide +kernel
theorem dX6_transform_126 : decode cX6_transform 126 = .ok (.if_icmp .ge 111, 3) := by decide +kernel
theorem dX6_transform_129 : decode cX6_transform 129 = .ok (.aload_n 0, 1) := by decide +kernel
theorem dX6_transform_130 : decode cX6_transform 130 = .ok (.getfield 15, 3) := by decide +kernel
theorem dX6_transform_133 : decode cX6_transform 133 = .ok (.bipush 8, 2) := by decide +kernel
theorem dX6_transform_135 : decode cX6_transform 135 = .ok (.iload_n 1, 1) := by decide +kernel
theorem dX6_transform_136 : decode cX6_transform 136 = .ok (.imul, 1) := by decide +kernel
theorem dX6_transform_137 : decode cX6_transform 137 = .ok (.iload_n 2, 1) := by decide +kernel
theorem dX6_transform_138 : decode cX6_transform 138 = .ok (.ifCond .ne 12, 3) := by decide +kernel
theorem dX6_transform_141 : decode cX6_transform 141 = .ok (.iload_n 3, 1) := by decide +kernel
theorem dX6_transform_142 : decode cX6_transform 142 = .ok (.iconst 1, 1) := by decide +kernel
theorem dX6_transform_143 : decode cX6_transform 143 = .ok (.isub, 1) := by decide +kernel
theorem dX6_transform_144 : decode cX6_transform 144 = .ok (.iload 4, 2) := by decide +kernel
theorem dX6_transform_146 : decode cX6_transform 146 = .ok (.isub, 1) := by decide +kernel
theorem dX6_transform_147 : decode cX6_transform 147 = .ok (.goto 5, 3) := by decide +kernel
theorem dX6_transform_150 : decode cX6_transform 150 = .ok (.iload 4, 2) := by decide +kernel
theorem dX6_transform_152 : decode cX6_transform 152 = .ok (.iadd, 1) := by decide +kernel
theorem dX6_transform_153 : decode cX6_transform 153 = .ok (.iaload, 1) := by decide +kernel
theorem dX6_transform_154 : decode cX6_transform 154 = .ok (.istore 5, 2) := by decide +kernel
theorem dX6_transform_156 : decode cX6_transform 156 = .ok (.iload 5, 2) := by decide +kernel
theorem dX6_transform_158 : decode cX6_transform 158 = .ok (.bipush 10, 2) := by decide +kernel
theorem dX6_transform_160 : decode cX6_transform 160 = .ok (.if_icmp .ge 7, 3) := by decide +kernel
theorem dX6_transform_163 : decode cX6_transform 163 = .ok (.iconst 1, 1) := by decide +kernel
theorem dX6_transform_164 : decode cX6_transform 164 = .ok (.goto 4, 3) := by decide +kernel
theorem dX6_transform_167 : decode cX6_transform 167 = .ok (.iconst 0, 1) := by decide +kernel
theorem dX6_transform_168 : decode cX6_transform 168 = .ok (.istore 6, 2) := by decide +kernel
theorem dX6_transform_170 : decode cX6_transform 170 = .ok (.iload_n 2, 1) := by decide +kernel
theorem dX6_transform_171 : decode cX6_transform 171 = .ok (.iconst 1, 1) := by decide +kernel
theorem dX6_transform_172 : decode cX6_transform 172 = .ok (.if_icmp .ne 26, 3) := by decide +kernel
theorem dX6_transform_175 : decode cX6_transform 175 = .ok (.aload_n 0, 1) := by decide +kernel
theorem dX6_transform_176 : decode cX6_transform 176 = .ok (.getfield 9, 3) := by decide +kernel
theorem dX6_transform_179 : decode cX6_transform 179 = .ok (.iconst 1, 1) := by decide +kernel
theorem dX6_transform_180 : decode cX6_transform 180 = .ok (.if_icmp .le 18, 3) := by decide +kernel
theorem dX6_transform_183 : decode cX6_transform 183 = .ok (.iload 5, 2) := by decide +kernel
theorem dX6_transform_185 : decode cX6_transform 185 = .ok (.iconst 2, 1) := by decide +kernel
theorem dX6_transform_186 : decode cX6_transform 186 = .ok (.if_icmp .ge 12, 3) := by decide +kernel
theorem dX6_transform_189 : decode cX6_transform 189 = .ok (.iconst 1, 1) := by decide +kernel
theorem dX6_transform_190 : decode cX6_transform 190 = .ok (.iload 5, 2) := by decide +kernel
theorem dX6_transform_192 : decode cX6_transform 192 = .ok (.isub, 1) := by decide +kernel
theorem dX6_transform_193 : decode cX6_transform 193 = .ok (.istore 5, 2) := by decide +kernel
theorem dX6_transform_195 : decode cX6_transform 195 = .ok (.goto 27, 3) := by decide +kernel
theorem dX6_transform_198 : decode cX6_transform 198 = .ok (.iload_n 2, 1) := by decide +kernel
theorem dX6_transform_199 : decode cX6_transform 199 = .ok (.iconst 3, 1) := by decide +kernel
theorem dX6_transform_200 : decode cX6_transform 200 = .ok (.if_icmp .ne 8, 3) := by decide +kernel
theorem dX6_transform_203 : decode cX6_transform 203 = .ok (.iload 6, 2) := by decide +kernel
theorem dX6_transform_205 : decode cX6_transform 205 = .ok (.ifCond .eq 13, 3) := by decide +kernel
theorem dX6_transform_208 : decode cX6_transform 208 = .ok (.iload_n 2, 1) := by decide +kernel
theorem dX6_transform_209 : decode cX6_transform 209 = .ok (.iconst 4, 1) := by decide +kernel
theorem dX6_transform_210 : decode cX6_transform 210 = .ok (.if_icmp .ne 12, 3) := by decide +kernel
theorem dX6_transform_213 : decode cX6_transform 213 = .ok (.iload 6, 2) := by decide +kernel
theorem dX6_transform_215 : decode cX6_transform 215 = .ok (.ifCond .eq 7, 3) := by decide +kernel
theorem dX6_transform_218 : decode cX6_transform 218 = .ok (.bipush 10, 2) := by decide +kernel
theorem dX6_transform_220 : decode cX6_transform 220 = .ok (.istore 5, 2) := by decide +kernel
theorem dX6_transform_222 : decode cX6_transform 222 = .ok (.aload_n 0, 1) := by decide +kernel
theorem dX6_transform_223 : decode cX6_transform 223 = .ok (.getfield 37, 3) := by decide +kernel
theorem dX6_transform_226 : decode cX6_transform 226 = .ok (.iload 4, 2) := by decide +kernel
theorem dX6_transform_228 : decode cX6_transform 228 = .ok (.iload 5, 2) := by decide +kernel
theorem dX6_transform_230 : decode cX6_transform 230 = .ok (.iastore, 1) := by decide +kernel
theorem dX6_transform_231 : decode cX6_transform 231 = .ok (.iinc 4 1, 3) := by decide +kernel
theorem dX6_transform_234 : decode cX6_transform 234 = .ok (.goto (-114), 3) := by decide +kernel
theorem dX6_transform_237 : decode cX6_transform 237 = .ok (.aload_n 0, 1) := by decide +kernel
theorem dX6_transform_238 : decode cX6_transform 238 = .ok (.iload_n 1, 1) := by decide +kernel
theorem dX6_transform_239 : decode cX6_transform 239 = .ok (.invokevirtual 143, 3) := by decide +kernel
theorem dX6_transform_242 : decode cX6_transform 242 = .ok (.ireturn, 1) := by decide +kernel
theorem dX6_match_0 : decode cX6_match 0 = .ok (.aload_n 0, 1) := by decide +kernel
theorem dX6_match_1 : decode cX6_match 1 = .ok (.aload_n 1, 1) := by decide +kernel
theorem dX6_match_2 : decode cX6_match 2 = .ok (.putfield 185, 3) := by decide +kernel
theorem dX6_match_5 : decode cX6_match 5 = .ok (.aload_n 0, 1) := by decide +kernel
theorem dX6_match_6 : decode cX6_match 6 = .ok (.iload_n 2, 1) := by decide +kernel
theorem dX6_match_7 : decode cX6_match 7 = .ok (.putfield 188, 3) := by decide +kernel
theorem dX6_match_10 : decode cX6_match 10 = .ok (.aload_n 0, 1) := by decide +kernel
theorem dX6_match_11 : decode cX6_match 11 = .ok (.iload_n 3, 1) := by decide +kernel
theorem dX6_match_12 : decode cX6_match 12 = .ok (.putfield 191, 3) := by decide +kernel
theorem dX6_match_15 : decode cX6_match 15 = .ok (.aload_n 0, 1) := by decide +kernel
theorem dX6_match_16 : decode cX6_match 16 = .ok (.aload 4, 2) := by decide +kernel
theorem dX6_match_18 : decode cX6_match 18 = .ok (.putfield 194, 3) := by decide +kernel
theorem dX6_match_21 : decode cX6_match 21 = .ok (.aload_n 0, 1) := by decide +kernel
theorem dX6_match_22 : decode cX6_match 22 = .ok (.iload 5, 2) := by decide +kernel
theorem dX6_match_24 : decode cX6_match 24 = .ok (.putfield 197, 3) := by decide +kernel
theorem dX6_match_27 : decode cX6_match 27 = .ok (.aload_n 0, 1) := by decide +kernel
theorem dX6_match_28 : decode cX6_match 28 = .ok (.iconst 1, 1) := by decide +kernel
theorem dX6_match_29 : decode cX6_match 29 = .ok (.iload 7, 2) := by decide +kernel
theorem dX6_match_31 : decode cX6_match 31 = .ok (.isub, 1) := by decide +kernel
theorem dX6_match_32 : decode cX6_match 32 = .ok (.putfield 200, 3) := by decide +kernel
theorem dX6_match_35 : decode cX6_match 35 = .ok (.aload_n 0, 1) := by decide +kernel
theorem dX6_match_36 : decode cX6_match 36 = .ok (.iload 8, 2) := by decide +kernel
theorem dX6_match_38 : decode cX6_match 38 = .ok (.putfield 203, 3) := by decide +kernel
theorem dX6_match_41 : decode cX6_match 41 = .ok (.aload_n 0, 1) := by decide +kernel
theorem dX6_match_42 : decode cX6_match 42 = .ok (.iconst 0, 1) := by decide +kernel
theorem dX6_match_43 : decode cX6_match 43 = .ok (.putfield 206, 3) := by decide +kernel
theorem dX6_match_46 : decode cX6_match 46 = .ok (.iconst 0, 1) := by decide +kernel
theorem dX6_match_47 : decode cX6_match 47 = .ok (.istore 9, 2) := by decide +kernel
theorem dX6_match_49 : decode cX6_match 49 = .ok (.iload 9, 2) := by decide +kernel
theorem dX6_match_51 : decode cX6_match 51 = .ok (.iconst 4, 1) := by decide +kernel
theorem dX6_match_52 : decode cX6_match 52 = .ok (.if_icmp .ge 27, 3) := by decide +kernel
theorem dX6_match_55 : decode cX6_match 55 = .ok (.aload_n 0, 1) := by decide +kernel
theorem dX6_match_56 : decode cX6_match 56 = .ok (.getfield 43, 3) := by decide +kernel
theorem dX6_match_59 : decode cX6_match 59 = .ok (.iload 9, 2) := by decide +kernel
theorem dX6_match_61 : decode cX6_match 61 = .ok (.bipush 10, 2) := by decide +kernel
theorem dX6_match_63 : decode cX6_match 63 = .ok (.iload 9, 2) := by decide +kernel
theorem dX6_match_65 : decode cX6_match 65 = .ok (.iadd, 1) := by decide +kernel
theorem dX6_match_66 : decode cX6_match 66 = .ok (.aload_n 1, 1) := by decide +kernel
theorem dX6_match_67 : decode cX6_match 67 = .ok (.iload_n 2, 1) := by decide +kernel
theorem dX6_match_68 : decode cX6_match 68 = .ok (.iload_n 3, 1) := by decide +kernel
theorem dX6_match_69 : decode cX6_match 69 = .ok (.invokestatic 146, 3) := by decide +kernel
theorem dX6_match_72 : decode cX6_match 72 = .ok (.iastore, 1) := by decide +kernel
theorem dX6_match_73 : decode cX6_match 73 = .ok (.iinc 9 1, 3) := by decide +kernel
theorem dX6_match_76 : decode cX6_match 76 = .ok (.goto (-27), 3) := by decide +kernel
theorem dX6_match_79 : decode cX6_match 79 = .ok (.aload_n 0, 1) := by decide +kernel
theorem dX6_match_80 : decode cX6_match 80 = .ok (.iconst 0, 1) := by decide +kernel
theorem dX6_match_81 : decode cX6_match 81 = .ok (.iload 6, 2) := by decide +kernel
theorem dX6_match_83 : decode cX6_match 83 = .ok (.aload_n 1, 1) := by decide +kernel
theorem dX6_match_84 : decode cX6_match 84 = .ok (.iload_n 2, 1) := by decide +kernel
theorem dX6_match_85 : decode cX6_match 85 = .ok (.iload_n 3, 1) := by decide +kernel
theorem dX6_match_86 : decode cX6_match 86 = .ok (.invokestatic 160, 3) := by decide +kernel
theorem dX6_match_89 : decode cX6_match 89 = .ok (.isub, 1) := by decide +kernel
theorem dX6_match_90 : decode cX6_match 90 = .ok (.invokevirtual 209, 3) := by decide +kernel
theorem dX6_match_93 : decode cX6_match 93 = .ok (.aload_n 0, 1) := by decide +kernel
theorem dX6_match_94 : decode cX6_match 94 = .ok (.getfield 206, 3) := by decide +kernel
theorem dX6_match_97 : decode cX6_match 97 = .ok (.ireturn, 1) := by decide +kernel
theorem dX6_choose_0 : decode cX6_choose 0 = .ok (.iload_n 1, 1) := by decide +kernel
theorem dX6_choose_1 : decode cX6_choose 1 = .ok (.iconst 4, 1) := by decide +kernel
theorem dX6_choose_2 : decode cX6_choose 2 = .ok (.if_icmp .ne 57, 3) := by decide +kernel
theorem dX6_choose_5 : decode cX6_choose 5 = .ok (.iload_n 2, 1) := by decide +kernel
theorem dX6_choose_6 : decode cX6_choose 6 = .ok (.ifCond .ne 52, 3) := by decide +kernel
theorem dX6_choose_9 : decode cX6_choose 9 = .ok (.aload_n 0, 1) := by decide +kernel
theorem dX6_choose_10 : decode cX6_choose 10 = .ok (.invokevirtual 213, 3) := by decide +kernel
theorem dX6_choose_13 : decode cX6_choose 13 = .ok (.ifCond .eq 45, 3) := by decide +kernel
theorem dX6_choose_16 : decode cX6_choose 16 = .ok (.iconst 0, 1) := by decide +kernel
theorem dX6_choose_17 : decode cX6_choose 17 = .ok (.istore_n 3, 1) := by decide +kernel
theorem dX6_choose_18 : decode cX6_choose 18 = .ok (.iload_n 3, 1) := by decide +kernel
theorem dX6_choose_19 : decode cX6_choose 19 = .ok (.iconst 4, 1) := by decide +kernel
theorem dX6_choose_20 : decode cX6_choose 20 = .ok (.if_icmp .ge 28, 3) := by decide +kernel
theorem dX6_choose_23 : decode cX6_choose 23 = .ok (.aload_n 0, 1) := by decide +kernel
theorem dX6_choose_24 : decode cX6_choose 24 = .ok (.getfield 206, 3) := by decide +kernel
theorem dX6_choose_27 : decode cX6_choose 27 = .ok (.ifCond .ne 21, 3) := by decide +kernel
theorem dX6_choose_30 : decode cX6_choose 30 = .ok (.aload_n 0, 1) := by decide +kernel
theorem dX6_choose_31 : decode cX6_choose 31 = .ok (.getfield 49, 3) := by decide +kernel
theorem dX6_choose_34 : decode cX6_choose 34 = .ok (.iload_n 3, 1) := by decide +kernel
theorem dX6_choose_35 : decode cX6_choose 35 = .ok (.aload_n 0, 1) := by decide +kernel
theorem dX6_choose_36 : decode cX6_choose 36 = .ok (.getfield 46, 3) := by decide +kernel
theorem dX6_choose_39 : decode cX6_choose 39 = .ok (.iload_n 3, 1) := by decide +kernel
theorem dX6_choose_40 : decode cX6_choose 40 = .ok (.iaload, 1) := by decide +kernel
theorem dX6_choose_41 : decode cX6_choose 41 = .ok (.iastore, 1) := by decide +kernel
theorem dX6_choose_42 : decode cX6_choose 42 = .ok (.iinc 3 1, 3) := by decide +kernel
theorem dX6_choose_45 : decode cX6_choose 45 = .ok (.goto (-27), 3) := by decide +kernel
theorem dX6_choose_48 : decode cX6_choose 48 = .ok (.aload_n 0, 1) := by decide +kernel
theorem dX6_choose_49 : decode cX6_choose 49 = .ok (.dup, 1) := by decide +kernel
theorem dX6_choose_50 : decode cX6_choose 50 = .ok (.getfield 206, 3) := by decide +kernel
theorem dX6_choose_53 : decode cX6_choose 53 = .ok (.iconst 1, 1) := by decide +kernel
theorem dX6_choose_54 : decode cX6_choose 54 = .ok (.iadd, 1) := by decide +kernel
theorem dX6_choose_55 : decode cX6_choose 55 = .ok (.putfield 206, 3) := by decide +kernel
theorem dX6_choose_58 : decode cX6_choose 58 = .ok (.return_, 1) := by decide +kernel
theorem dX6_choose_59 : decode cX6_choose 59 = .ok (.aload_n 0, 1) := by decide +kernel
theorem dX6_choose_60 : decode cX6_choose 60 = .ok (.getfield 43, 3) := by decide +kernel
theorem dX6_choose_63 : decode cX6_choose 63 = .ok (.iload_n 1, 1) := by decide +kernel
theorem dX6_choose_64 : decode cX6_choose 64 = .ok (.iaload, 1) := by decide +kernel
theorem dX6_choose_65 : decode cX6_choose 65 = .ok (.ifCond .ne 19, 3) := by decide +kernel
theorem dX6_choose_68 : decode cX6_choose 68 = .ok (.aload_n 0, 1) := by decide +kernel
theorem dX6_choose_69 : decode cX6_choose 69 = .ok (.getfield 46, 3) := by decide +kernel
theorem dX6_choose_72 : decode cX6_choose 72 = .ok (.iload_n 1, 1) := by decide +kernel
theorem dX6_choose_73 : decode cX6_choose 73 = .ok (.iconst 0, 1) := by decide +kernel
theorem dX6_choose_74 : decode cX6_choose 74 = .ok (.iastore, 1) := by decide +kernel
theorem dX6_choose_75 : decode cX6_choose 75 = .ok (.aload_n 0, 1) := by decide +kernel
theorem dX6_choose_76 : decode cX6_choose 76 = .ok (.iload_n 1, 1) := by decide +kernel
theorem dX6_choose_77 : decode cX6_choose 77 = .ok (.iconst 1, 1) := by decide +kernel
theorem dX6_choose_78 : decode cX6_choose 78 = .ok (.iadd, 1) := by decide +kernel
theorem dX6_choose_79 : decode cX6_choose 79 = .ok (.iload_n 2, 1) := by decide +kernel
theorem dX6_choose_80 : decode cX6_choose 80 = .ok (.invokevirtual 209, 3) := by decide +kernel
theorem dX6_choose_83 : decode cX6_choose 83 = .ok (.return_, 1) := by decide +kernel
theorem dX6_choose_84 : decode cX6_choose 84 = .ok (.aload_n 0, 1) := by decide +kernel
theorem dX6_choose_85 : decode cX6_choose 85 = .ok (.getfield 200, 3) := by decide +kernel
theorem dX6_choose_88 : decode cX6_choose 88 = .ok (.istore_n 3, 1) := by decide +kernel
theorem dX6_choose_89 : decode cX6_choose 89 = .ok (.iload_n 3, 1) := by decide +kernel
theorem dX6_choose_90 : decode cX6_choose 90 = .ok (.aload_n 0, 1) := by decide +kernel
theorem dX6_choose_91 : decode cX6_choose 91 = .ok (.getfield 43, 3) := by decide +kernel
theorem dX6_choose_94 : decode cX6_choose 94 = .ok (.iload_n 1, 1) := by decide +kernel
theorem dX6_choose_95 : decode cX6_choose 95 = .ok (.iaload, 1) := by decide +kernel
theorem dX6_choose_96 : decode cX6_choose 96 = .ok (.imul, 1) := by decide +kernel
theorem dX6_choose_97 : decode cX6_choose 97 = .ok (.iload_n 2, 1) := by decide +kernel
theorem dX6_choose_98 : decode cX6_choose 98 = .ok (.if_icmp .gt 44, 3) := by decide +kernel
theorem dX6_choose_101 : decode cX6_choose 101 = .ok (.aload_n 0, 1) := by decide +kernel
theorem dX6_choose_102 : decode cX6_choose 102 = .ok (.getfield 206, 3) := by decide +kernel
theorem dX6_choose_105 : decode cX6_choose 105 = .ok (.aload_n 0, 1) := by decide +kernel
theorem dX6_choose_106 : decode cX6_choose 106 = .ok (.getfield 203, 3) := by decide +kernel
theorem dX6_choose_109 : decode cX6_choose 109 = .ok (.if_icmp .ge 33, 3) := by decide +kernel
theorem dX6_choose_112 : decode cX6_choose 112 = .ok (.aload_n 0, 1) := by decide +kernel
theorem dX6_choose_113 : decode cX6_choose 113 = .ok (.getfield 46, 3) := by decide +kernel
theorem dX6_choose_116 : decode cX6_choose 116 = .ok (.iload_n 1, 1) := by decide +kernel
theorem dX6_choose_117 : decode cX6_choose 117 = .ok (.iload_n 3, 1) := by decide +kernel
theorem dX6_choose_118 : decode cX6_choose 118 = .ok (.iastore, 1) := by decide +kernel
theorem dX6_choose_119 : decode cX6_choose 119 = .ok (.aload_n 0, 1) := by decide +kernel
theorem dX6_choose_120 : decode cX6_choose 120 = .ok (.iload_n 1, 1) := by decide +kernel
theorem dX6_choose_121 : decode cX6_choose 121 = .ok (.iconst 1, 1) := by decide +kernel
theorem dX6_choose_122 : decode cX6_choose 122 = .ok (.iadd, 1) := by decide +kernel
theorem dX6_choose_123 : decode cX6_choose 123 = .ok (.iload_n 2, 1) := by decide +kernel
theorem dX6_choose_124 : decode cX6_choose 124 = .ok (.iload_n 3, 1) := by decide +kernel
theorem dX6_choose_125 : decode cX6_choose 125 = .ok (.aload_n 0, 1) := by decide +kernel
theorem dX6_choose_126 : decode cX6_choose 126 = .ok (.getfield 43, 3) := by decide +kernel
theorem dX6_choose_129 : decode cX6_choose 129 = .ok (.iload_n 1, 1) := by decide +kernel
theorem dX6_choose_130 : decode cX6_choose 130 = .ok (.iaload, 1) := by decide +kernel
theorem dX6_choose_131 : decode cX6_choose 131 = .ok (.imul, 1) := by decide +kernel
theorem dX6_choose_132 : decode cX6_choose 132 = .ok (.isub, 1) := by decide +kernel
theorem dX6_choose_133 : decode cX6_choose 133 = .ok (.invokevirtual 209, 3) := by decide +kernel
theorem dX6_choose_136 : decode cX6_choose 136 = .ok (.iinc 3 1, 3) := by decide +kernel
theorem dX6_choose_139 : decode cX6_choose 139 = .ok (.goto (-50), 3) := by decide +kernel
theorem dX6_choose_142 : decode cX6_choose 142 = .ok (.return_, 1) := by decide +kernel
theorem dX6_produces_0 : decode cX6_produces 0 = .ok (.iconst 0, 1) := by decide +kernel
theorem dX6_produces_1 : decode cX6_produces 1 = .ok (.istore_n 1, 1) := by decide +kernel
theorem dX6_produces_2 : decode cX6_produces 2 = .ok (.iload_n 1, 1) := by decide +kernel
theorem dX6_produces_3 : decode cX6_produces 3 = .ok (.iconst 4, 1) := by decide +kernel
theorem dX6_produces_4 : decode cX6_produces 4 = .ok (.if_icmp .ge 16, 3) := by decide +kernel
theorem dX6_produces_7 : decode cX6_produces 7 = .ok (.aload_n 0, 1) := by decide +kernel
theorem dX6_produces_8 : decode cX6_produces 8 = .ok (.getfield 52, 3) := by decide +kernel
theorem dX6_produces_11 : decode cX6_produces 11 = .ok (.iload_n 1, 1) := by decide +kernel
theorem dX6_produces_12 : decode cX6_produces 12 = .ok (.iconst (-1), 1) := by decide +kernel
theorem dX6_produces_13 : decode cX6_produces 13 = .ok (.iastore, 1) := by decide +kernel
theorem dX6_produces_14 : decode cX6_produces 14 = .ok (.iinc 1 1, 3) := by decide +kernel
theorem dX6_produces_17 : decode cX6_produces 17 = .ok (.goto (-15), 3) := by decide +kernel
theorem dX6_produces_20 : decode cX6_produces 20 = .ok (.aload_n 0, 1) := by decide +kernel
theorem dX6_produces_21 : decode cX6_produces 21 = .ok (.getfield 197, 3) := by decide +kernel
theorem dX6_produces_24 : decode cX6_produces 24 = .ok (.istore_n 1, 1) := by decide +kernel
theorem dX6_produces_25 : decode cX6_produces 25 = .ok (.aload_n 0, 1) := by decide +kernel
theorem dX6_produces_26 : decode cX6_produces 26 = .ok (.getfield 188, 3) := by decide +kernel
theorem dX6_produces_29 : decode cX6_produces 29 = .ok (.istore_n 2, 1) := by decide +kernel
theorem dX6_produces_30 : decode cX6_produces 30 = .ok (.iload_n 2, 1) := by decide +kernel
theorem dX6_produces_31 : decode cX6_produces 31 = .ok (.aload_n 0, 1) := by decide +kernel
theorem dX6_produces_32 : decode cX6_produces 32 = .ok (.getfield 188, 3) := by decide +kernel
theorem dX6_produces_35 : decode cX6_produces 35 = .ok (.aload_n 0, 1) := by decide +kernel
theorem dX6_produces_36 : decode cX6_produces 36 = .ok (.getfield 191, 3) := by decide +kernel
theorem dX6_produces_39 : decode cX6_produces 39 = .ok (.iadd, 1) := by decide +kernel
theorem dX6_produces_40 : decode cX6_produces 40 = .ok (.if_icmp .ge 134, 3) := by decide +kernel
theorem dX6_produces_43 : decode cX6_produces 43 = .ok (.aload_n 0, 1) := by decide +kernel
theorem dX6_produces_44 : decode cX6_produces 44 = .ok (.getfield 185, 3) := by decide +kernel
theorem dX6_produces_47 : decode cX6_produces 47 = .ok (.iload_n 2, 1) := by decide +kernel
theorem dX6_produces_48 : decode cX6_produces 48 = .ok (.iaload, 1) := by decide +kernel
theorem dX6_produces_49 : decode cX6_produces 49 = .ok (.istore_n 3, 1) := by decide +kernel
theorem dX6_produces_50 : decode cX6_produces 50 = .ok (.iload_n 3, 1) := by decide +kernel
theorem dX6_produces_51 : decode cX6_produces 51 = .ok (.bipush 10, 2) := by decide +kernel
theorem dX6_produces_53 : decode cX6_produces 53 = .ok (.if_icmp .ge 21, 3) := by decide +kernel
theorem dX6_produces_56 : decode cX6_produces 56 = .ok (.aload_n 0, 1) := by decide +kernel
theorem dX6_produces_57 : decode cX6_produces 57 = .ok (.getfield 194, 3) := by decide +kernel
theorem dX6_produces_60 : decode cX6_produces 60 = .ok (.iload_n 1, 1) := by decide +kernel
theorem dX6_produces_61 : decode cX6_produces 61 = .ok (.iaload, 1) := by decide +kernel
theorem dX6_produces_62 : decode cX6_produces 62 = .ok (.iload_n 3, 1) := by decide +kernel
theorem dX6_produces_63 : decode cX6_produces 63 = .ok (.if_icmp .eq 5, 3) := by decide +kernel
theorem dX6_produces_66 : decode cX6_produces 66 = .ok (.iconst 0, 1) := by decide +kernel
theorem dX6_produces_67 : decode cX6_produces 67 = .ok (.ireturn, 1) := by decide +kernel
theorem dX6_produces_68 : decode cX6_produces 68 = .ok (.iinc 1 1, 3) := by decide +kernel
theorem dX6_produces_71 : decode cX6_produces 71 = .ok (.goto 97, 3) := by decide +kernel
theorem dX6_produces_74 : decode cX6_produces 74 = .ok (.iload_n 3, 1) := by decide +kernel
theorem dX6_produces_75 : decode cX6_produces 75 = .ok (.bipush 10, 2) := by decide +kernel
theorem dX6_produces_77 : decode cX6_produces 77 = .ok (.isub, 1) := by decide +kernel
theorem dX6_produces_78 : decode cX6_produces 78 = .ok (.istore 4, 2) := by decide +kernel
theorem dX6_produces_80 : decode cX6_produces 80 = .ok (.aload_n 0, 1) := by decide +kernel
theorem dX6_produces_81 : decode cX6_produces 81 = .ok (.getfield 52, 3) := by decide +kernel
theorem dX6_produces_84 : decode cX6_produces 84 = .ok (.iload 4, 2) := by decide +kernel
theorem dX6_produces_86 : decode cX6_produces 86 = .ok (.aload_n 0, 1) := by decide +kernel
theorem dX6_produces_87 : decode cX6_produces 87 = .ok (.getfield 52, 3) := by decide +kernel
theorem dX6_produces_90 : decode cX6_produces 90 = .ok (.iload 4, 2) := by decide +kernel
theorem dX6_produces_92 : decode cX6_produces 92 = .ok (.iaload, 1) := by decide +kernel
theorem dX6_produces_93 : decode cX6_produces 93 = .ok (.ifCond .ge 7, 3) := by decide +kernel
theorem dX6_produces_96 : decode cX6_produces 96 = .ok (.iload_n 1, 1) := by decide +kernel
theorem dX6_produces_97 : decode cX6_produces 97 = .ok (.goto 10, 3) := by decide +kernel
theorem dX6_produces_100 : decode cX6_produces 100 = .ok (.aload_n 0, 1) := by decide +kernel
theorem dX6_produces_101 : decode cX6_produces 101 = .ok (.getfield 52, 3) := by decide +kernel
theorem dX6_produces_104 : decode cX6_produces 104 = .ok (.iload 4, 2) := by decide +kernel
theorem dX6_produces_106 : decode cX6_produces 106 = .ok (.iaload, 1) := by decide +kernel
theorem dX6_produces_107 : decode cX6_produces 107 = .ok (.iastore, 1) := by decide +kernel
theorem dX6_produces_108 : decode cX6_produces 108 = .ok (.iconst 0, 1) := by decide +kernel
theorem dX6_produces_109 : decode cX6_produces 109 = .ok (.istore 5, 2) := by decide +kernel
theorem dX6_produces_111 : decode cX6_produces 111 = .ok (.iload 5, 2) := by decide +kernel
theorem dX6_produces_113 : decode cX6_produces 113 = .ok (.aload_n 0, 1) := by decide +kernel
theorem dX6_produces_114 : decode cX6_produces 114 = .ok (.getfield 46, 3) := by decide +kernel
theorem dX6_produces_117 : decode cX6_produces 117 = .ok (.iload 4, 2) := by decide +kernel
theorem dX6_produces_119 : decode cX6_produces 119 = .ok (.iaload, 1) := by decide +kernel
theorem dX6_produces_120 : decode cX6_produces 120 = .ok (.if_icmp .ge 38, 3) := by decide +kernel
theorem dX6_produces_123 : decode cX6_produces 123 = .ok (.aload_n 0, 1) := by decide +kernel
theorem dX6_produces_124 : decode cX6_produces 124 = .ok (.getfield 194, 3) := by decide +kernel
theorem dX6_produces_127 : decode cX6_produces 127 = .ok (.iload_n 1, 1) := by decide +kernel
theorem dX6_produces_128 : decode cX6_produces 128 = .ok (.iload 5, 2) := by decide +kernel
theorem dX6_produces_130 : decode cX6_produces 130 = .ok (.iadd, 1) := by decide +kernel
theorem dX6_produces_131 : decode cX6_produces 131 = .ok (.iaload, 1) := by decide +kernel
theorem dX6_produces_132 : decode cX6_produces 132 = .ok (.aload_n 0, 1) := by decide +kernel
theorem dX6_produces_133 : decode cX6_produces 133 = .ok (.getfield 194, 3) := by decide +kernel
theorem dX6_produces_136 : decode cX6_produces 136 = .ok (.aload_n 0, 1) := by decide +kernel
theorem dX6_produces_137 : decode cX6_produces 137 = .ok (.getfield 52, 3) := by decide +kernel
theorem dX6_produces_140 : decode cX6_produces 140 = .ok (.iload 4, 2) := by decide +kernel
theorem dX6_produces_142 : decode cX6_produces 142 = .ok (.iaload, 1) := by decide +kernel
theorem dX6_produces_143 : decode cX6_produces 143 = .ok (.iload 5, 2) := by decide +kernel
theorem dX6_produces_145 : decode cX6_produces 145 = .ok (.iadd, 1) := by decide +kernel
theorem dX6_produces_146 : decode cX6_produces 146 = .ok (.iaload, 1) := by decide +kernel
theorem dX6_produces_147 : decode cX6_produces 147 = .ok (.if_icmp .eq 5, 3) := by decide +kernel
theorem dX6_produces_150 : decode cX6_produces 150 = .ok (.iconst 0, 1) := by decide +kernel
theorem dX6_produces_151 : decode cX6_produces 151 = .ok (.ireturn, 1) := by decide +kernel
theorem dX6_produces_152 : decode cX6_produces 152 = .ok (.iinc 5 1, 3) := by decide +kernel
theorem dX6_produces_155 : decode cX6_produces 155 = .ok (.goto (-44), 3) := by decide +kernel
theorem dX6_produces_158 : decode cX6_produces 158 = .ok (.iload_n 1, 1) := by decide +kernel
theorem dX6_produces_159 : decode cX6_produces 159 = .ok (.aload_n 0, 1) := by decide +kernel
theorem dX6_produces_160 : decode cX6_produces 160 = .ok (.getfield 46, 3) := by decide +kernel
theorem dX6_produces_163 : decode cX6_produces 163 = .ok (.iload 4, 2) := by decide +kernel
theorem dX6_produces_165 : decode cX6_produces 165 = .ok (.iaload, 1) := by decide +kernel
theorem dX6_produces_166 : decode cX6_produces 166 = .ok (.iadd, 1) := by decide +kernel
theorem dX6_produces_167 : decode cX6_produces 167 = .ok (.istore_n 1, 1) := by decide +kernel
theorem dX6_produces_168 : decode cX6_produces 168 = .ok (.iinc 2 1, 3) := by decide +kernel
theorem dX6_produces_171 : decode cX6_produces 171 = .ok (.goto (-141), 3) := by decide +kernel
theorem dX6_produces_174 : decode cX6_produces 174 = .ok (.iconst 1, 1) := by decide +kernel
theorem dX6_produces_175 : decode cX6_produces 175 = .ok (.ireturn, 1) := by decide +kernel
theorem dX6_matchesOf_0 : decode cX6_matchesOf 0 = .ok (.aload_n 0, 1) := by decide +kernel
theorem dX6_matchesOf_1 : decode cX6_matchesOf 1 = .ok (.aload_n 0, 1) := by decide +kernel
theorem dX6_matchesOf_2 : decode cX6_matchesOf 2 = .ok (.getfield 15, 3) := by decide +kernel
theorem dX6_matchesOf_5 : decode cX6_matchesOf 5 = .ok (.bipush 8, 2) := by decide +kernel
theorem dX6_matchesOf_7 : decode cX6_matchesOf 7 = .ok (.iload_n 1, 1) := by decide +kernel
theorem dX6_matchesOf_8 : decode cX6_matchesOf 8 = .ok (.imul, 1) := by decide +kernel
theorem dX6_matchesOf_9 : decode cX6_matchesOf 9 = .ok (.aload_n 0, 1) := by decide +kernel
theorem dX6_matchesOf_10 : decode cX6_matchesOf 10 = .ok (.getfield 19, 3) := by decide +kernel
theorem dX6_matchesOf_13 : decode cX6_matchesOf 13 = .ok (.iload_n 1, 1) := by decide +kernel
theorem dX6_matchesOf_14 : decode cX6_matchesOf 14 = .ok (.iaload, 1) := by decide +kernel
theorem dX6_matchesOf_15 : decode cX6_matchesOf 15 = .ok (.aload_n 0, 1) := by decide +kernel
theorem dX6_matchesOf_16 : decode cX6_matchesOf 16 = .ok (.getfield 37, 3) := by decide +kernel
theorem dX6_matchesOf_19 : decode cX6_matchesOf 19 = .ok (.iconst 0, 1) := by decide +kernel
theorem dX6_matchesOf_20 : decode cX6_matchesOf 20 = .ok (.aload_n 0, 1) := by decide +kernel
theorem dX6_matchesOf_21 : decode cX6_matchesOf 21 = .ok (.getfield 112, 3) := by decide +kernel
theorem dX6_matchesOf_24 : decode cX6_matchesOf 24 = .ok (.iload_n 2, 1) := by decide +kernel
theorem dX6_matchesOf_25 : decode cX6_matchesOf 25 = .ok (.iload_n 3, 1) := by decide +kernel
theorem dX6_matchesOf_26 : decode cX6_matchesOf 26 = .ok (.invokevirtual 217, 3) := by decide +kernel
theorem dX6_matchesOf_29 : decode cX6_matchesOf 29 = .ok (.ireturn, 1) := by decide +kernel
theorem dX6_takeWord_0 : decode cX6_takeWord 0 = .ok (.aload_n 0, 1) := by decide +kernel
theorem dX6_takeWord_1 : decode cX6_takeWord 1 = .ok (.iconst 0, 1) := by decide +kernel
theorem dX6_takeWord_2 : decode cX6_takeWord 2 = .ok (.invokevirtual 135, 3) := by decide +kernel
theorem dX6_takeWord_5 : decode cX6_takeWord 5 = .ok (.istore_n 3, 1) := by decide +kernel
theorem dX6_takeWord_6 : decode cX6_takeWord 6 = .ok (.iload_n 1, 1) := by decide +kernel
theorem dX6_takeWord_7 : decode cX6_takeWord 7 = .ok (.invokestatic 139, 3) := by decide +kernel
theorem dX6_takeWord_10 : decode cX6_takeWord 10 = .ok (.ifCond .ne 8, 3) := by decide +kernel
theorem dX6_takeWord_13 : decode cX6_takeWord 13 = .ok (.bipush (-2), 2) := by decide +kernel
theorem dX6_takeWord_15 : decode cX6_takeWord 15 = .ok (.goto 24, 3) := by decide +kernel
theorem dX6_takeWord_18 : decode cX6_takeWord 18 = .ok (.iload_n 2, 1) := by decide +kernel
theorem dX6_takeWord_19 : decode cX6_takeWord 19 = .ok (.invokestatic 221, 3) := by decide +kernel
theorem dX6_takeWord_22 : decode cX6_takeWord 22 = .ok (.ifCond .ne 7, 3) := by decide +kernel
theorem dX6_takeWord_25 : decode cX6_takeWord 25 = .ok (.iconst (-1), 1) := by decide +kernel
theorem dX6_takeWord_26 : decode cX6_takeWord 26 = .ok (.goto 13, 3) := by decide +kernel
theorem dX6_takeWord_29 : decode cX6_takeWord 29 = .ok (.iload_n 3, 1) := by decide +kernel
theorem dX6_takeWord_30 : decode cX6_takeWord 30 = .ok (.ifCond .eq 7, 3) := by decide +kernel
theorem dX6_takeWord_33 : decode cX6_takeWord 33 = .ok (.iconst 0, 1) := by decide +kernel
theorem dX6_takeWord_34 : decode cX6_takeWord 34 = .ok (.goto 5, 3) := by decide +kernel
theorem dX6_takeWord_37 : decode cX6_takeWord 37 = .ok (.bipush (-5), 2) := by decide +kernel
theorem dX6_takeWord_39 : decode cX6_takeWord 39 = .ok (.ireturn, 1) := by decide +kernel
theorem dX6_matches_0 : decode cX6_matches 0 = .ok (.aload_n 0, 1) := by decide +kernel
theorem dX6_matches_1 : decode cX6_matches 1 = .ok (.iload_n 1, 1) := by decide +kernel
theorem dX6_matches_2 : decode cX6_matches 2 = .ok (.iload_n 2, 1) := by decide +kernel
theorem dX6_matches_3 : decode cX6_matches 3 = .ok (.invokevirtual 224, 3) := by decide +kernel
theorem dX6_matches_6 : decode cX6_matches 6 = .ok (.istore_n 3, 1) := by decide +kernel
theorem dX6_matches_7 : decode cX6_matches 7 = .ok (.iload_n 3, 1) := by decide +kernel
theorem dX6_matches_8 : decode cX6_matches 8 = .ok (.ifCond .ge 7, 3) := by decide +kernel
theorem dX6_matches_11 : decode cX6_matches 11 = .ok (.iload_n 3, 1) := by decide +kernel
theorem dX6_matches_12 : decode cX6_matches 12 = .ok (.goto 10, 3) := by decide +kernel
theorem dX6_matches_15 : decode cX6_matches 15 = .ok (.aload_n 0, 1) := by decide +kernel
theorem dX6_matches_16 : decode cX6_matches 16 = .ok (.iload_n 1, 1) := by decide +kernel
theorem dX6_matches_17 : decode cX6_matches 17 = .ok (.iload_n 2, 1) := by decide +kernel
theorem dX6_matches_18 : decode cX6_matches 18 = .ok (.iconst 1, 1) := by decide +kernel
theorem dX6_matches_19 : decode cX6_matches 19 = .ok (.invokevirtual 227, 3) := by decide +kernel
theorem dX6_matches_22 : decode cX6_matches 22 = .ok (.ireturn, 1) := by decide +kernel
theorem dX6_matchCount_0 : decode cX6_matchCount 0 = .ok (.aload_n 0, 1) := by decide +kernel
theorem dX6_matchCount_1 : decode cX6_matchCount 1 = .ok (.iload_n 1, 1) := by decide +kernel
theorem dX6_matchCount_2 : decode cX6_matchCount 2 = .ok (.iload_n 2, 1) := by decide +kernel
theorem dX6_matchCount_3 : decode cX6_matchCount 3 = .ok (.invokevirtual 224, 3) := by decide +kernel
theorem dX6_matchCount_6 : decode cX6_matchCount 6 = .ok (.istore_n 3, 1) := by decide +kernel
theorem dX6_matchCount_7 : decode cX6_matchCount 7 = .ok (.iload_n 3, 1) := by decide +kernel
theorem dX6_matchCount_8 : decode cX6_matchCount 8 = .ok (.ifCond .ge 7, 3) := by decide +kernel
theorem dX6_matchCount_11 : decode cX6_matchCount 11 = .ok (.iload_n 3, 1) := by decide +kernel
theorem dX6_matchCount_12 : decode cX6_matchCount 12 = .ok (.goto 11, 3) := by decide +kernel
theorem dX6_matchCount_15 : decode cX6_matchCount 15 = .ok (.aload_n 0, 1) := by decide +kernel
theorem dX6_matchCount_16 : decode cX6_matchCount 16 = .ok (.iload_n 1, 1) := by decide +kernel
theorem dX6_matchCount_17 : decode cX6_matchCount 17 = .ok (.iload_n 2, 1) := by decide +kernel
theorem dX6_matchCount_18 : decode cX6_matchCount 18 = .ok (.ldc 232, 2) := by decide +kernel
theorem dX6_matchCount_20 : decode cX6_matchCount 20 = .ok (.invokevirtual 227, 3) := by decide +kernel
theorem dX6_matchCount_23 : decode cX6_matchCount 23 = .ok (.ireturn, 1) := by decide +kernel
theorem dX6_match__0 : decode cX6_match_ 0 = .ok (.aload_n 0, 1) := by decide +kernel
theorem dX6_match__1 : decode cX6_match_ 1 = .ok (.iload_n 1, 1) := by decide +kernel
theorem dX6_match__2 : decode cX6_match_ 2 = .ok (.iload_n 2, 1) := by decide +kernel
theorem dX6_match__3 : decode cX6_match_ 3 = .ok (.invokevirtual 224, 3) := by decide +kernel
theorem dX6_match__6 : decode cX6_match_ 6 = .ok (.istore_n 3, 1) := by decide +kernel
theorem dX6_match__7 : decode cX6_match_ 7 = .ok (.iload_n 3, 1) := by decide +kernel
theorem dX6_match__8 : decode cX6_match_ 8 = .ok (.ifCond .ge 5, 3) := by decide +kernel
theorem dX6_match__11 : decode cX6_match_ 11 = .ok (.iload_n 3, 1) := by decide +kernel
theorem dX6_match__12 : decode cX6_match_ 12 = .ok (.ireturn, 1) := by decide +kernel
theorem dX6_match__13 : decode cX6_match_ 13 = .ok (.aload_n 0, 1) := by decide +kernel
theorem dX6_match__14 : decode cX6_match_ 14 = .ok (.iload_n 1, 1) := by decide +kernel
theorem dX6_match__15 : decode cX6_match_ 15 = .ok (.iload_n 2, 1) := by decide +kernel
theorem dX6_match__16 : decode cX6_match_ 16 = .ok (.iconst 1, 1) := by decide +kernel
theorem dX6_match__17 : decode cX6_match_ 17 = .ok (.invokevirtual 227, 3) := by decide +kernel
theorem dX6_match__20 : decode cX6_match_ 20 = .ok (.ifCond .ne 6, 3) := by decide +kernel
theorem dX6_match__23 : decode cX6_match_ 23 = .ok (.bipush (-6), 2) := by decide +kernel
theorem dX6_match__25 : decode cX6_match_ 25 = .ok (.ireturn, 1) := by decide +kernel
theorem dX6_match__26 : decode cX6_match_ 26 = .ok (.iconst 0, 1) := by decide +kernel
theorem dX6_match__27 : decode cX6_match_ 27 = .ok (.istore 4, 2) := by decide +kernel
theorem dX6_match__29 : decode cX6_match_ 29 = .ok (.iconst 0, 1) := by decide +kernel
theorem dX6_match__30 : decode cX6_match_ 30 = .ok (.istore 5, 2) := by decide +kernel
theorem dX6_match__32 : decode cX6_match_ 32 = .ok (.iload 5, 2) := by decide +kernel
theorem dX6_match__34 : decode cX6_match_ 34 = .ok (.iconst 4, 1) := by decide +kernel
theorem dX6_match__35 : decode cX6_match_ 35 = .ok (.if_icmp .ge 17, 3) := by decide +kernel
theorem dX6_match__38 : decode cX6_match_ 38 = .ok (.aload_n 0, 1) := by decide +kernel
theorem dX6_match__39 : decode cX6_match_ 39 = .ok (.getfield 52, 3) := by decide +kernel
theorem dX6_match__42 : decode cX6_match_ 42 = .ok (.iload 5, 2) := by decide +kernel
theorem dX6_match__44 : decode cX6_match_ 44 = .ok (.iconst (-1), 1) := by decide +kernel
theorem dX6_match__45 : decode cX6_match_ 45 = .ok (.iastore, 1) := by decide +kernel
theorem dX6_match__46 : decode cX6_match_ 46 = .ok (.iinc 5 1, 3) := by decide +kernel
theorem dX6_match__49 : decode cX6_match_ 49 = .ok (.goto (-17), 3) := by decide +kernel
theorem dX6_match__52 : decode cX6_match_ 52 = .ok (.bipush 8, 2) := by decide +kernel
theorem dX6_match__54 : decode cX6_match_ 54 = .ok (.iload_n 1, 1) := by decide +kernel
theorem dX6_match__55 : decode cX6_match_ 55 = .ok (.imul, 1) := by decide +kernel
theorem dX6_match__56 : decode cX6_match_ 56 = .ok (.istore 5, 2) := by decide +kernel
theorem dX6_match__58 : decode cX6_match_ 58 = .ok (.iload 5, 2) := by decide +kernel
theorem dX6_match__60 : decode cX6_match_ 60 = .ok (.bipush 8, 2) := by decide +kernel
theorem dX6_match__62 : decode cX6_match_ 62 = .ok (.iload_n 1, 1) := by decide +kernel
theorem dX6_match__63 : decode cX6_match_ 63 = .ok (.imul, 1) := by decide +kernel
theorem dX6_match__64 : decode cX6_match_ 64 = .ok (.aload_n 0, 1) := by decide +kernel
theorem dX6_match__65 : decode cX6_match_ 65 = .ok (.getfield 19, 3) := by decide +kernel
theorem dX6_match__68 : decode cX6_match_ 68 = .ok (.iload_n 1, 1) := by decide +kernel
theorem dX6_match__69 : decode cX6_match_ 69 = .ok (.iaload, 1) := by decide +kernel
theorem dX6_match__70 : decode cX6_match_ 70 = .ok (.iadd, 1) := by decide +kernel
theorem dX6_match__71 : decode cX6_match_ 71 = .ok (.if_icmp .ge 105, 3) := by decide +kernel
theorem dX6_match__74 : decode cX6_match_ 74 = .ok (.aload_n 0, 1) := by decide +kernel
theorem dX6_match__75 : decode cX6_match_ 75 = .ok (.getfield 15, 3) := by decide +kernel
theorem dX6_match__78 : decode cX6_match_ 78 = .ok (.iload 5, 2) := by decide +kernel
theorem dX6_match__80 : decode cX6_match_ 80 = .ok (.iaload, 1) := by decide +kernel
theorem dX6_match__81 : decode cX6_match_ 81 = .ok (.bipush 10, 2) := by decide +kernel
theorem dX6_match__83 : decode cX6_match_ 83 = .ok (.isub, 1) := by decide +kernel
theorem dX6_match__84 : decode cX6_match_ 84 = .ok (.istore 6, 2) := by decide +kernel
theorem dX6_match__86 : decode cX6_match_ 86 = .ok (.iload 6, 2) := by decide +kernel
theorem dX6_match__88 : decode cX6_match_ 88 = .ok (.ifCond .lt 61, 3) := by decide +kernel
theorem dX6_match__91 : decode cX6_match_ 91 = .ok (.aload_n 0, 1) := by decide +kernel
theorem dX6_match__92 : decode cX6_match_ 92 = .ok (.getfield 52, 3) := by decide +kernel
theorem dX6_match__95 : decode cX6_match_ 95 = .ok (.iload 6, 2) := by decide +kernel
theorem dX6_match__97 : decode cX6_match_ 97 = .ok (.iaload, 1) := by decide +kernel
theorem dX6_match__98 : decode cX6_match_ 98 = .ok (.ifCond .ge 51, 3) := by decide +kernel
theorem dX6_match__101 : decode cX6_match_ 101 = .ok (.aload_n 0, 1) := by decide +kernel
theorem dX6_match__102 : decode cX6_match_ 102 = .ok (.getfield 52, 3) := by decide +kernel
theorem dX6_match__105 : decode cX6_match_ 105 = .ok (.iload 6, 2) := by decide +kernel
theorem dX6_match__107 : decode cX6_match_ 107 = .ok (.iload 4, 2) := by decide +kernel
theorem dX6_match__109 : decode cX6_match_ 109 = .ok (.iastore, 1) := by decide +kernel
theorem dX6_match__110 : decode cX6_match_ 110 = .ok (.aload_n 0, 1) := by decide +kernel
theorem dX6_match__111 : decode cX6_match_ 111 = .ok (.getfield 37, 3) := by decide +kernel
theorem dX6_match__114 : decode cX6_match_ 114 = .ok (.iload 4, 2) := by decide +kernel
theorem dX6_match__116 : decode cX6_match_ 116 = .ok (.aload_n 0, 1) := by decide +kernel
theorem dX6_match__117 : decode cX6_match_ 117 = .ok (.getfield 28, 3) := by decide +kernel
theorem dX6_match__120 : decode cX6_match_ 120 = .ok (.bipush 8, 2) := by decide +kernel
theorem dX6_match__122 : decode cX6_match_ 122 = .ok (.iload 6, 2) := by decide +kernel
theorem dX6_match__124 : decode cX6_match_ 124 = .ok (.imul, 1) := by decide +kernel
theorem dX6_match__125 : decode cX6_match_ 125 = .ok (.aload_n 0, 1) := by decide +kernel
theorem dX6_match__126 : decode cX6_match_ 126 = .ok (.getfield 49, 3) := by decide +kernel
theorem dX6_match__129 : decode cX6_match_ 129 = .ok (.iload 6, 2) := by decide +kernel
theorem dX6_match__131 : decode cX6_match_ 131 = .ok (.iaload, 1) := by decide +kernel
theorem dX6_match__132 : decode cX6_match_ 132 = .ok (.invokestatic 125, 3) := by decide +kernel
theorem dX6_match__135 : decode cX6_match_ 135 = .ok (.aload_n 0, 1) := by decide +kernel
theorem dX6_match__136 : decode cX6_match_ 136 = .ok (.getfield 31, 3) := by decide +kernel
theorem dX6_match__139 : decode cX6_match_ 139 = .ok (.iload 6, 2) := by decide +kernel
theorem dX6_match__141 : decode cX6_match_ 141 = .ok (.aload_n 0, 1) := by decide +kernel
theorem dX6_match__142 : decode cX6_match_ 142 = .ok (.getfield 49, 3) := by decide +kernel
theorem dX6_match__145 : decode cX6_match_ 145 = .ok (.iload 6, 2) := by decide +kernel
theorem dX6_match__147 : decode cX6_match_ 147 = .ok (.iaload, 1) := by decide +kernel
theorem dX6_match__148 : decode cX6_match_ 148 = .ok (.iastore, 1) := by decide +kernel
theorem dX6_match__149 : decode cX6_match_ 149 = .ok (.iload 4, 2) := by decide +kernel
theorem dX6_match__151 : decode cX6_match_ 151 = .ok (.iload 6, 2) := by decide +kernel
theorem dX6_match__153 : decode cX6_match_ 153 = .ok (.ifCond .ge 7, 3) := by decide +kernel
theorem dX6_match__156 : decode cX6_match_ 156 = .ok (.iconst 1, 1) := by decide +kernel
theorem dX6_match__157 : decode cX6_match_ 157 = .ok (.goto 10, 3) := by decide +kernel
theorem dX6_match__160 : decode cX6_match_ 160 = .ok (.aload_n 0, 1) := by decide +kernel
theorem dX6_match__161 : decode cX6_match_ 161 = .ok (.getfield 49, 3) := by decide +kernel
theorem dX6_match__164 : decode cX6_match_ 164 = .ok (.iload 6, 2) := by decide +kernel
theorem dX6_match__166 : decode cX6_match_ 166 = .ok (.iaload, 1) := by decide +kernel
theorem dX6_match__167 : decode cX6_match_ 167 = .ok (.iadd, 1) := by decide +kernel
theorem dX6_match__168 : decode cX6_match_ 168 = .ok (.istore 4, 2) := by decide +kernel
theorem dX6_match__170 : decode cX6_match_ 170 = .ok (.iinc 5 1, 3) := by decide +kernel
theorem dX6_match__173 : decode cX6_match_ 173 = .ok (.goto (-115), 3) := by decide +kernel
theorem dX6_match__176 : decode cX6_match_ 176 = .ok (.aload_n 0, 1) := by decide +kernel
theorem dX6_match__177 : decode cX6_match_ 177 = .ok (.iload_n 1, 1) := by decide +kernel
theorem dX6_match__178 : decode cX6_match_ 178 = .ok (.iconst 0, 1) := by decide +kernel
theorem dX6_match__179 : decode cX6_match_ 179 = .ok (.invokevirtual 157, 3) := by decide +kernel
theorem dX6_match__182 : decode cX6_match_ 182 = .ok (.ifCond .ne 7, 3) := by decide +kernel
theorem dX6_match__185 : decode cX6_match_ 185 = .ok (.iconst 0, 1) := by decide +kernel
theorem dX6_match__186 : decode cX6_match_ 186 = .ok (.goto 9, 3) := by decide +kernel
theorem dX6_match__189 : decode cX6_match_ 189 = .ok (.aload_n 0, 1) := by decide +kernel
theorem dX6_match__190 : decode cX6_match_ 190 = .ok (.getfield 49, 3) := by decide +kernel
theorem dX6_match__193 : decode cX6_match_ 193 = .ok (.iconst 0, 1) := by decide +kernel
theorem dX6_match__194 : decode cX6_match_ 194 = .ok (.iaload, 1) := by decide +kernel
theorem dX6_match__195 : decode cX6_match_ 195 = .ok (.ireturn, 1) := by decide +kernel
theorem dX6_setImage_0 : decode cX6_setImage 0 = .ok (.aload_n 0, 1) := by decide +kernel
theorem dX6_setImage_1 : decode cX6_setImage 1 = .ok (.iconst 0, 1) := by decide +kernel
theorem dX6_setImage_2 : decode cX6_setImage 2 = .ok (.invokevirtual 135, 3) := by decide +kernel
theorem dX6_setImage_5 : decode cX6_setImage 5 = .ok (.istore_n 2, 1) := by decide +kernel
theorem dX6_setImage_6 : decode cX6_setImage 6 = .ok (.iload_n 1, 1) := by decide +kernel
theorem dX6_setImage_7 : decode cX6_setImage 7 = .ok (.iconst 0, 1) := by decide +kernel
theorem dX6_setImage_8 : decode cX6_setImage 8 = .ok (.iconst 3, 1) := by decide +kernel
theorem dX6_setImage_9 : decode cX6_setImage 9 = .ok (.invokestatic 101, 3) := by decide +kernel
theorem dX6_setImage_12 : decode cX6_setImage 12 = .ok (.ifCond .ne 6, 3) := by decide +kernel
theorem dX6_setImage_15 : decode cX6_setImage 15 = .ok (.bipush (-3), 2) := by decide +kernel
theorem dX6_setImage_17 : decode cX6_setImage 17 = .ok (.ireturn, 1) := by decide +kernel
theorem dX6_setImage_18 : decode cX6_setImage 18 = .ok (.iload_n 2, 1) := by decide +kernel
theorem dX6_setImage_19 : decode cX6_setImage 19 = .ok (.ifCond .ne 6, 3) := by decide +kernel
theorem dX6_setImage_22 : decode cX6_setImage 22 = .ok (.bipush (-5), 2) := by decide +kernel
theorem dX6_setImage_24 : decode cX6_setImage 24 = .ok (.ireturn, 1) := by decide +kernel
theorem dX6_setImage_25 : decode cX6_setImage 25 = .ok (.aload_n 0, 1) := by decide +kernel
theorem dX6_setImage_26 : decode cX6_setImage 26 = .ok (.getfield 37, 3) := by decide +kernel
theorem dX6_setImage_29 : decode cX6_setImage 29 = .ok (.iconst 0, 1) := by decide +kernel
theorem dX6_setImage_30 : decode cX6_setImage 30 = .ok (.aload_n 0, 1) := by decide +kernel
theorem dX6_setImage_31 : decode cX6_setImage 31 = .ok (.getfield 28, 3) := by decide +kernel
theorem dX6_setImage_34 : decode cX6_setImage 34 = .ok (.bipush 8, 2) := by decide +kernel
theorem dX6_setImage_36 : decode cX6_setImage 36 = .ok (.iload_n 1, 1) := by decide +kernel
theorem dX6_setImage_37 : decode cX6_setImage 37 = .ok (.imul, 1) := by decide +kernel
theorem dX6_setImage_38 : decode cX6_setImage 38 = .ok (.aload_n 0, 1) := by decide +kernel
theorem dX6_setImage_39 : decode cX6_setImage 39 = .ok (.getfield 112, 3) := by decide +kernel
theorem dX6_setImage_42 : decode cX6_setImage 42 = .ok (.invokestatic 125, 3) := by decide +kernel
theorem dX6_setImage_45 : decode cX6_setImage 45 = .ok (.aload_n 0, 1) := by decide +kernel
theorem dX6_setImage_46 : decode cX6_setImage 46 = .ok (.getfield 31, 3) := by decide +kernel
theorem dX6_setImage_49 : decode cX6_setImage 49 = .ok (.iload_n 1, 1) := by decide +kernel
theorem dX6_setImage_50 : decode cX6_setImage 50 = .ok (.aload_n 0, 1) := by decide +kernel
theorem dX6_setImage_51 : decode cX6_setImage 51 = .ok (.getfield 112, 3) := by decide +kernel
theorem dX6_setImage_54 : decode cX6_setImage 54 = .ok (.iastore, 1) := by decide +kernel
theorem dX6_setImage_55 : decode cX6_setImage 55 = .ok (.aload_n 0, 1) := by decide +kernel
theorem dX6_setImage_56 : decode cX6_setImage 56 = .ok (.getfield 112, 3) := by decide +kernel
theorem dX6_setImage_59 : decode cX6_setImage 59 = .ok (.ireturn, 1) := by decide +kernel
theorem dX6_imageLetter_0 : decode cX6_imageLetter 0 = .ok (.iload_n 1, 1) := by decide +kernel
theorem dX6_imageLetter_1 : decode cX6_imageLetter 1 = .ok (.iconst 0, 1) := by decide +kernel
theorem dX6_imageLetter_2 : decode cX6_imageLetter 2 = .ok (.iconst 3, 1) := by decide +kernel
theorem dX6_imageLetter_3 : decode cX6_imageLetter 3 = .ok (.invokestatic 101, 3) := by decide +kernel
theorem dX6_imageLetter_6 : decode cX6_imageLetter 6 = .ok (.ifCond .ne 6, 3) := by decide +kernel
theorem dX6_imageLetter_9 : decode cX6_imageLetter 9 = .ok (.bipush (-3), 2) := by decide +kernel
theorem dX6_imageLetter_11 : decode cX6_imageLetter 11 = .ok (.ireturn, 1) := by decide +kernel
theorem dX6_imageLetter_12 : decode cX6_imageLetter 12 = .ok (.iload_n 2, 1) := by decide +kernel
theorem dX6_imageLetter_13 : decode cX6_imageLetter 13 = .ok (.iconst 0, 1) := by decide +kernel
theorem dX6_imageLetter_14 : decode cX6_imageLetter 14 = .ok (.aload_n 0, 1) := by decide +kernel
theorem dX6_imageLetter_15 : decode cX6_imageLetter 15 = .ok (.getfield 31, 3) := by decide +kernel
theorem dX6_imageLetter_18 : decode cX6_imageLetter 18 = .ok (.iload_n 1, 1) := by decide +kernel
theorem dX6_imageLetter_19 : decode cX6_imageLetter 19 = .ok (.iaload, 1) := by decide +kernel
theorem dX6_imageLetter_20 : decode cX6_imageLetter 20 = .ok (.iconst 1, 1) := by decide +kernel
theorem dX6_imageLetter_21 : decode cX6_imageLetter 21 = .ok (.isub, 1) := by decide +kernel
theorem dX6_imageLetter_22 : decode cX6_imageLetter 22 = .ok (.invokestatic 101, 3) := by decide +kernel
theorem dX6_imageLetter_25 : decode cX6_imageLetter 25 = .ok (.ifCond .eq 17, 3) := by decide +kernel
theorem dX6_imageLetter_28 : decode cX6_imageLetter 28 = .ok (.aload_n 0, 1) := by decide +kernel
theorem dX6_imageLetter_29 : decode cX6_imageLetter 29 = .ok (.getfield 28, 3) := by decide +kernel
theorem dX6_imageLetter_32 : decode cX6_imageLetter 32 = .ok (.bipush 8, 2) := by decide +kernel
theorem dX6_imageLetter_34 : decode cX6_imageLetter 34 = .ok (.iload_n 1, 1) := by decide +kernel
theorem dX6_imageLetter_35 : decode cX6_imageLetter 35 = .ok (.imul, 1) := by decide +kernel
theorem dX6_imageLetter_36 : decode cX6_imageLetter 36 = .ok (.iload_n 2, 1) := by decide +kernel
theorem dX6_imageLetter_37 : decode cX6_imageLetter 37 = .ok (.iadd, 1) := by decide +kernel
theorem dX6_imageLetter_38 : decode cX6_imageLetter 38 = .ok (.iaload, 1) := by decide +kernel
theorem dX6_imageLetter_39 : decode cX6_imageLetter 39 = .ok (.goto 5, 3) := by decide +kernel
theorem dX6_imageLetter_42 : decode cX6_imageLetter 42 = .ok (.bipush (-6), 2) := by decide +kernel
theorem dX6_imageLetter_44 : decode cX6_imageLetter 44 = .ok (.ireturn, 1) := by decide +kernel
theorem dX6_addToSample_0 : decode cX6_addToSample 0 = .ok (.aload_n 0, 1) := by decide +kernel
theorem dX6_addToSample_1 : decode cX6_addToSample 1 = .ok (.getfield 37, 3) := by decide +kernel
theorem dX6_addToSample_4 : decode cX6_addToSample 4 = .ok (.iconst 0, 1) := by decide +kernel
theorem dX6_addToSample_5 : decode cX6_addToSample 5 = .ok (.aload_n 0, 1) := by decide +kernel
theorem dX6_addToSample_6 : decode cX6_addToSample 6 = .ok (.getfield 22, 3) := by decide +kernel
theorem dX6_addToSample_9 : decode cX6_addToSample 9 = .ok (.bipush 8, 2) := by decide +kernel
theorem dX6_addToSample_11 : decode cX6_addToSample 11 = .ok (.aload_n 0, 1) := by decide +kernel
theorem dX6_addToSample_12 : decode cX6_addToSample 12 = .ok (.getfield 98, 3) := by decide +kernel
theorem dX6_addToSample_15 : decode cX6_addToSample 15 = .ok (.imul, 1) := by decide +kernel
theorem dX6_addToSample_16 : decode cX6_addToSample 16 = .ok (.aload_n 0, 1) := by decide +kernel
theorem dX6_addToSample_17 : decode cX6_addToSample 17 = .ok (.getfield 112, 3) := by decide +kernel
theorem dX6_addToSample_20 : decode cX6_addToSample 20 = .ok (.invokestatic 125, 3) := by decide +kernel
theorem dX6_addToSample_23 : decode cX6_addToSample 23 = .ok (.aload_n 0, 1) := by decide +kernel
theorem dX6_addToSample_24 : decode cX6_addToSample 24 = .ok (.getfield 25, 3) := by decide +kernel
theorem dX6_addToSample_27 : decode cX6_addToSample 27 = .ok (.aload_n 0, 1) := by decide +kernel
theorem dX6_addToSample_28 : decode cX6_addToSample 28 = .ok (.getfield 98, 3) := by decide +kernel
theorem dX6_addToSample_31 : decode cX6_addToSample 31 = .ok (.aload_n 0, 1) := by decide +kernel
theorem dX6_addToSample_32 : decode cX6_addToSample 32 = .ok (.getfield 112, 3) := by decide +kernel
theorem dX6_addToSample_35 : decode cX6_addToSample 35 = .ok (.iastore, 1) := by decide +kernel
theorem dX6_addToSample_36 : decode cX6_addToSample 36 = .ok (.aload_n 0, 1) := by decide +kernel
theorem dX6_addToSample_37 : decode cX6_addToSample 37 = .ok (.dup, 1) := by decide +kernel
theorem dX6_addToSample_38 : decode cX6_addToSample 38 = .ok (.getfield 98, 3) := by decide +kernel
theorem dX6_addToSample_41 : decode cX6_addToSample 41 = .ok (.iconst 1, 1) := by decide +kernel
theorem dX6_addToSample_42 : decode cX6_addToSample 42 = .ok (.iadd, 1) := by decide +kernel
theorem dX6_addToSample_43 : decode cX6_addToSample 43 = .ok (.putfield 98, 3) := by decide +kernel
theorem dX6_addToSample_46 : decode cX6_addToSample 46 = .ok (.aload_n 0, 1) := by decide +kernel
theorem dX6_addToSample_47 : decode cX6_addToSample 47 = .ok (.getfield 98, 3) := by decide +kernel
theorem dX6_addToSample_50 : decode cX6_addToSample 50 = .ok (.ireturn, 1) := by decide +kernel
theorem dX6_addProduced_0 : decode cX6_addProduced 0 = .ok (.iload_n 1, 1) := by decide +kernel
theorem dX6_addProduced_1 : decode cX6_addProduced 1 = .ok (.invokestatic 139, 3) := by decide +kernel
theorem dX6_addProduced_4 : decode cX6_addProduced 4 = .ok (.ifCond .ne 6, 3) := by decide +kernel
theorem dX6_addProduced_7 : decode cX6_addProduced 7 = .ok (.bipush (-2), 2) := by decide +kernel
theorem dX6_addProduced_9 : decode cX6_addProduced 9 = .ok (.ireturn, 1) := by decide +kernel
theorem dX6_addProduced_10 : decode cX6_addProduced 10 = .ok (.iconst 0, 1) := by decide +kernel
theorem dX6_addProduced_11 : decode cX6_addProduced 11 = .ok (.istore_n 2, 1) := by decide +kernel
theorem dX6_addProduced_12 : decode cX6_addProduced 12 = .ok (.bipush 8, 2) := by decide +kernel
theorem dX6_addProduced_14 : decode cX6_addProduced 14 = .ok (.iload_n 1, 1) := by decide +kernel
theorem dX6_addProduced_15 : decode cX6_addProduced 15 = .ok (.imul, 1) := by decide +kernel
theorem dX6_addProduced_16 : decode cX6_addProduced 16 = .ok (.istore_n 3, 1) := by decide +kernel
theorem dX6_addProduced_17 : decode cX6_addProduced 17 = .ok (.iload_n 3, 1) := by decide +kernel
theorem dX6_addProduced_18 : decode cX6_addProduced 18 = .ok (.bipush 8, 2) := by decide +kernel
theorem dX6_addProduced_20 : decode cX6_addProduced 20 = .ok (.iload_n 1, 1) := by decide +kernel
theorem dX6_addProduced_21 : decode cX6_addProduced 21 = .ok (.imul, 1) := by decide +kernel
theorem dX6_addProduced_22 : decode cX6_addProduced 22 = .ok (.aload_n 0, 1) := by decide +kernel
theorem dX6_addProduced_23 : decode cX6_addProduced 23 = .ok (.getfield 19, 3) := by decide +kernel
theorem dX6_addProduced_26 : decode cX6_addProduced 26 = .ok (.iload_n 1, 1) := by decide +kernel
theorem dX6_addProduced_27 : decode cX6_addProduced 27 = .ok (.iaload, 1) := by decide +kernel
theorem dX6_addProduced_28 : decode cX6_addProduced 28 = .ok (.iadd, 1) := by decide +kernel
theorem dX6_addProduced_29 : decode cX6_addProduced 29 = .ok (.if_icmp .ge 41, 3) := by decide +kernel
theorem dX6_addProduced_32 : decode cX6_addProduced 32 = .ok (.iload_n 2, 1) := by decide +kernel
theorem dX6_addProduced_33 : decode cX6_addProduced 33 = .ok (.aload_n 0, 1) := by decide +kernel
theorem dX6_addProduced_34 : decode cX6_addProduced 34 = .ok (.getfield 15, 3) := by decide +kernel
theorem dX6_addProduced_37 : decode cX6_addProduced 37 = .ok (.iload_n 3, 1) := by decide +kernel
theorem dX6_addProduced_38 : decode cX6_addProduced 38 = .ok (.iaload, 1) := by decide +kernel
theorem dX6_addProduced_39 : decode cX6_addProduced 39 = .ok (.bipush 10, 2) := by decide +kernel
theorem dX6_addProduced_41 : decode cX6_addProduced 41 = .ok (.if_icmp .ge 7, 3) := by decide +kernel
theorem dX6_addProduced_44 : decode cX6_addProduced 44 = .ok (.iconst 1, 1) := by decide +kernel
theorem dX6_addProduced_45 : decode cX6_addProduced 45 = .ok (.goto 17, 3) := by decide +kernel
theorem dX6_addProduced_48 : decode cX6_addProduced 48 = .ok (.aload_n 0, 1) := by decide +kernel
theorem dX6_addProduced_49 : decode cX6_addProduced 49 = .ok (.getfield 31, 3) := by decide +kernel
theorem dX6_addProduced_52 : decode cX6_addProduced 52 = .ok (.aload_n 0, 1) := by decide +kernel
theorem dX6_addProduced_53 : decode cX6_addProduced 53 = .ok (.getfield 15, 3) := by decide +kernel
theorem dX6_addProduced_56 : decode cX6_addProduced 56 = .ok (.iload_n 3, 1) := by decide +kernel
theorem dX6_addProduced_57 : decode cX6_addProduced 57 = .ok (.iaload, 1) := by decide +kernel
theorem dX6_addProduced_58 : decode cX6_addProduced 58 = .ok (.bipush 10, 2) := by decide +kernel
theorem dX6_addProduced_60 : decode cX6_addProduced 60 = .ok (.isub, 1) := by decide +kernel
theorem dX6_addProduced_61 : decode cX6_addProduced 61 = .ok (.iaload, 1) := by decide +kernel
theorem dX6_addProduced_62 : decode cX6_addProduced 62 = .ok (.iadd, 1) := by decide +kernel
theorem dX6_addProduced_63 : decode cX6_addProduced 63 = .ok (.istore_n 2, 1) := by decide +kernel
theorem dX6_addProduced_64 : decode cX6_addProduced 64 = .ok (.iinc 3 1, 3) := by decide +kernel
theorem dX6_addProduced_67 : decode cX6_addProduced 67 = .ok (.goto (-50), 3) := by decide +kernel
theorem dX6_addProduced_70 : decode cX6_addProduced 70 = .ok (.iload_n 2, 1) := by decide +kernel
theorem dX6_addProduced_71 : decode cX6_addProduced 71 = .ok (.bipush 8, 2) := by decide +kernel
theorem dX6_addProduced_73 : decode cX6_addProduced 73 = .ok (.if_icmp .gt 12, 3) := by decide +kernel
theorem dX6_addProduced_76 : decode cX6_addProduced 76 = .ok (.aload_n 0, 1) := by decide +kernel
theorem dX6_addProduced_77 : decode cX6_addProduced 77 = .ok (.getfield 98, 3) := by decide +kernel
theorem dX6_addProduced_80 : decode cX6_addProduced 80 = .ok (.bipush 6, 2) := by decide +kernel
theorem dX6_addProduced_82 : decode cX6_addProduced 82 = .ok (.if_icmp .ne 6, 3) := by decide +kernel
theorem dX6_addProduced_85 : decode cX6_addProduced 85 = .ok (.bipush (-4), 2) := by decide +kernel
theorem dX6_addProduced_87 : decode cX6_addProduced 87 = .ok (.ireturn, 1) := by decide +kernel
theorem dX6_addProduced_88 : decode cX6_addProduced 88 = .ok (.aload_n 0, 1) := by decide +kernel
theorem dX6_addProduced_89 : decode cX6_addProduced 89 = .ok (.iconst 0, 1) := by decide +kernel
theorem dX6_addProduced_90 : decode cX6_addProduced 90 = .ok (.putfield 112, 3) := by decide +kernel
theorem dX6_addProduced_93 : decode cX6_addProduced 93 = .ok (.bipush 8, 2) := by decide +kernel
theorem dX6_addProduced_95 : decode cX6_addProduced 95 = .ok (.iload_n 1, 1) := by decide +kernel
theorem dX6_addProduced_96 : decode cX6_addProduced 96 = .ok (.imul, 1) := by decide +kernel
theorem dX6_addProduced_97 : decode cX6_addProduced 97 = .ok (.istore_n 3, 1) := by decide +kernel
theorem dX6_addProduced_98 : decode cX6_addProduced 98 = .ok (.iload_n 3, 1) := by decide +kernel
theorem dX6_addProduced_99 : decode cX6_addProduced 99 = .ok (.bipush 8, 2) := by decide +kernel
theorem dX6_addProduced_101 : decode cX6_addProduced 101 = .ok (.iload_n 1, 1) := by decide +kernel
theorem dX6_addProduced_102 : decode cX6_addProduced 102 = .ok (.imul, 1) := by decide +kernel
theorem dX6_addProduced_103 : decode cX6_addProduced 103 = .ok (.aload_n 0, 1) := by decide +kernel
theorem dX6_addProduced_104 : decode cX6_addProduced 104 = .ok (.getfield 19, 3) := by decide +kernel
theorem dX6_addProduced_107 : decode cX6_addProduced 107 = .ok (.iload_n 1, 1) := by decide +kernel
theorem dX6_addProduced_108 : decode cX6_addProduced 108 = .ok (.iaload, 1) := by decide +kernel
theorem dX6_addProduced_109 : decode cX6_addProduced 109 = .ok (.iadd, 1) := by decide +kernel
theorem dX6_addProduced_110 : decode cX6_addProduced 110 = .ok (.if_icmp .ge 100, 3) := by decide +kernel
theorem dX6_addProduced_113 : decode cX6_addProduced 113 = .ok (.aload_n 0, 1) := by decide +kernel
theorem dX6_addProduced_114 : decode cX6_addProduced 114 = .ok (.getfield 15, 3) := by decide +kernel
theorem dX6_addProduced_117 : decode cX6_addProduced 117 = .ok (.iload_n 3, 1) := by decide +kernel
theorem dX6_addProduced_118 : decode cX6_addProduced 118 = .ok (.iaload, 1) := by decide +kernel
theorem dX6_addProduced_119 : decode cX6_addProduced 119 = .ok (.bipush 10, 2) := by decide +kernel
theorem dX6_addProduced_121 : decode cX6_addProduced 121 = .ok (.isub, 1) := by decide +kernel
theorem dX6_addProduced_122 : decode cX6_addProduced 122 = .ok (.istore 4, 2) := by decide +kernel
theorem dX6_addProduced_124 : decode cX6_addProduced 124 = .ok (.iload 4, 2) := by decide +kernel
theorem dX6_addProduced_126 : decode cX6_addProduced 126 = .ok (.ifCond .ge 7, 3) := by decide +kernel
theorem dX6_addProduced_129 : decode cX6_addProduced 129 = .ok (.iconst 1, 1) := by decide +kernel
theorem dX6_addProduced_130 : decode cX6_addProduced 130 = .ok (.goto 10, 3) := by decide +kernel
theorem dX6_addProduced_133 : decode cX6_addProduced 133 = .ok (.aload_n 0, 1) := by decide +kernel
theorem dX6_addProduced_134 : decode cX6_addProduced 134 = .ok (.getfield 31, 3) := by decide +kernel
theorem dX6_addProduced_137 : decode cX6_addProduced 137 = .ok (.iload 4, 2) := by decide +kernel
theorem dX6_addProduced_139 : decode cX6_addProduced 139 = .ok (.iaload, 1) := by decide +kernel
theorem dX6_addProduced_140 : decode cX6_addProduced 140 = .ok (.istore 5, 2) := by decide +kernel
theorem dX6_addProduced_142 : decode cX6_addProduced 142 = .ok (.iconst 0, 1) := by decide +kernel
theorem dX6_addProduced_143 : decode cX6_addProduced 143 = .ok (.istore 6, 2) := by decide +kernel
theorem dX6_addProduced_145 : decode cX6_addProduced 145 = .ok (.iload 6, 2) := by decide +kernel
theorem dX6_addProduced_147 : decode cX6_addProduced 147 = .ok (.iload 5, 2) := by decide +kernel
theorem dX6_addProduced_149 : decode cX6_addProduced 149 = .ok (.if_icmp .ge 55, 3) := by decide +kernel
theorem dX6_addProduced_152 : decode cX6_addProduced 152 = .ok (.aload_n 0, 1) := by decide +kernel
theorem dX6_addProduced_153 : decode cX6_addProduced 153 = .ok (.getfield 37, 3) := by decide +kernel
theorem dX6_addProduced_156 : decode cX6_addProduced 156 = .ok (.aload_n 0, 1) := by decide +kernel
theorem dX6_addProduced_157 : decode cX6_addProduced 157 = .ok (.getfield 112, 3) := by decide +kernel
theorem dX6_addProduced_160 : decode cX6_addProduced 160 = .ok (.iload 4, 2) := by decide +kernel
theorem dX6_addProduced_162 : decode cX6_addProduced 162 = .ok (.ifCond .ge 12, 3) := by decide +kernel
theorem dX6_addProduced_165 : decode cX6_addProduced 165 = .ok (.aload_n 0, 1) := by decide +kernel
theorem dX6_addProduced_166 : decode cX6_addProduced 166 = .ok (.getfield 15, 3) := by decide +kernel
theorem dX6_addProduced_169 : decode cX6_addProduced 169 = .ok (.iload_n 3, 1) := by decide +kernel
theorem dX6_addProduced_170 : decode cX6_addProduced 170 = .ok (.iaload, 1) := by decide +kernel
theorem dX6_addProduced_171 : decode cX6_addProduced 171 = .ok (.goto 16, 3) := by decide +kernel
theorem dX6_addProduced_174 : decode cX6_addProduced 174 = .ok (.aload_n 0, 1) := by decide +kernel
theorem dX6_addProduced_175 : decode cX6_addProduced 175 = .ok (.getfield 28, 3) := by decide +kernel
theorem dX6_addProduced_178 : decode cX6_addProduced 178 = .ok (.bipush 8, 2) := by decide +kernel
theorem dX6_addProduced_180 : decode cX6_addProduced 180 = .ok (.iload 4, 2) := by decide +kernel
theorem dX6_addProduced_182 : decode cX6_addProduced 182 = .ok (.imul, 1) := by decide +kernel
theorem dX6_addProduced_183 : decode cX6_addProduced 183 = .ok (.iload 6, 2) := by decide +kernel
theorem dX6_addProduced_185 : decode cX6_addProduced 185 = .ok (.iadd, 1) := by decide +kernel
theorem dX6_addProduced_186 : decode cX6_addProduced 186 = .ok (.iaload, 1) := by decide +kernel
theorem dX6_addProduced_187 : decode cX6_addProduced 187 = .ok (.iastore, 1) := by decide +kernel
theorem dX6_addProduced_188 : decode cX6_addProduced 188 = .ok (.aload_n 0, 1) := by decide +kernel
theorem dX6_addProduced_189 : decode cX6_addProduced 189 = .ok (.dup, 1) := by decide +kernel
theorem dX6_addProduced_190 : decode cX6_addProduced 190 = .ok (.getfield 112, 3) := by decide +kernel
theorem dX6_addProduced_193 : decode cX6_addProduced 193 = .ok (.iconst 1, 1) := by decide +kernel
theorem dX6_addProduced_194 : decode cX6_addProduced 194 = .ok (.iadd, 1) := by decide +kernel
theorem dX6_addProduced_195 : decode cX6_addProduced 195 = .ok (.putfield 112, 3) := by decide +kernel
theorem dX6_addProduced_198 : decode cX6_addProduced 198 = .ok (.iinc 6 1, 3) := by decide +kernel
theorem dX6_addProduced_201 : decode cX6_addProduced 201 = .ok (.goto (-56), 3) := by decide +kernel
theorem dX6_addProduced_204 : decode cX6_addProduced 204 = .ok (.iinc 3 1, 3) := by decide +kernel
theorem dX6_addProduced_207 : decode cX6_addProduced 207 = .ok (.goto (-109), 3) := by decide +kernel
theorem dX6_addProduced_210 : decode cX6_addProduced 210 = .ok (.aload_n 0, 1) := by decide +kernel
theorem dX6_addProduced_211 : decode cX6_addProduced 211 = .ok (.invokevirtual 233, 3) := by decide +kernel
theorem dX6_addProduced_214 : decode cX6_addProduced 214 = .ok (.ireturn, 1) := by decide +kernel
theorem dX6_addWord_0 : decode cX6_addWord 0 = .ok (.aload_n 0, 1) := by decide +kernel
theorem dX6_addWord_1 : decode cX6_addWord 1 = .ok (.iconst 0, 1) := by decide +kernel
theorem dX6_addWord_2 : decode cX6_addWord 2 = .ok (.invokevirtual 135, 3) := by decide +kernel
theorem dX6_addWord_5 : decode cX6_addWord 5 = .ok (.ifCond .ne 6, 3) := by decide +kernel
theorem dX6_addWord_8 : decode cX6_addWord 8 = .ok (.bipush (-5), 2) := by decide +kernel
theorem dX6_addWord_10 : decode cX6_addWord 10 = .ok (.ireturn, 1) := by decide +kernel
theorem dX6_addWord_11 : decode cX6_addWord 11 = .ok (.aload_n 0, 1) := by decide +kernel
theorem dX6_addWord_12 : decode cX6_addWord 12 = .ok (.getfield 98, 3) := by decide +kernel
theorem dX6_addWord_15 : decode cX6_addWord 15 = .ok (.bipush 6, 2) := by decide +kernel
theorem dX6_addWord_17 : decode cX6_addWord 17 = .ok (.if_icmp .ne 8, 3) := by decide +kernel
theorem dX6_addWord_20 : decode cX6_addWord 20 = .ok (.bipush (-4), 2) := by decide +kernel
theorem dX6_addWord_22 : decode cX6_addWord 22 = .ok (.goto 7, 3) := by decide +kernel
theorem dX6_addWord_25 : decode cX6_addWord 25 = .ok (.aload_n 0, 1) := by decide +kernel
theorem dX6_addWord_26 : decode cX6_addWord 26 = .ok (.invokevirtual 233, 3) := by decide +kernel
theorem dX6_addWord_29 : decode cX6_addWord 29 = .ok (.ireturn, 1) := by decide +kernel
theorem dX6_isInSample_0 : decode cX6_isInSample 0 = .ok (.iload_n 1, 1) := by decide +kernel
theorem dX6_isInSample_1 : decode cX6_isInSample 1 = .ok (.iconst 0, 1) := by decide +kernel
theorem dX6_isInSample_2 : decode cX6_isInSample 2 = .ok (.aload_n 0, 1) := by decide +kernel
theorem dX6_isInSample_3 : decode cX6_isInSample 3 = .ok (.getfield 98, 3) := by decide +kernel
theorem dX6_isInSample_6 : decode cX6_isInSample 6 = .ok (.iconst 1, 1) := by decide +kernel
theorem dX6_isInSample_7 : decode cX6_isInSample 7 = .ok (.isub, 1) := by decide +kernel
theorem dX6_isInSample_8 : decode cX6_isInSample 8 = .ok (.invokestatic 101, 3) := by decide +kernel
theorem dX6_isInSample_11 : decode cX6_isInSample 11 = .ok (.ireturn, 1) := by decide +kernel
theorem dX6_removeWord_0 : decode cX6_removeWord 0 = .ok (.aload_n 0, 1) := by decide +kernel
theorem dX6_removeWord_1 : decode cX6_removeWord 1 = .ok (.iload_n 1, 1) := by decide +kernel
theorem dX6_removeWord_2 : decode cX6_removeWord 2 = .ok (.invokevirtual 236, 3) := by decide +kernel
theorem dX6_removeWord_5 : decode cX6_removeWord 5 = .ok (.ifCond .ne 6, 3) := by decide +kernel
theorem dX6_removeWord_8 : decode cX6_removeWord 8 = .ok (.bipush (-6), 2) := by decide +kernel
theorem dX6_removeWord_10 : decode cX6_removeWord 10 = .ok (.ireturn, 1) := by decide +kernel
theorem dX6_removeWord_11 : decode cX6_removeWord 11 = .ok (.iload_n 1, 1) := by decide +kernel
theorem dX6_removeWord_12 : decode cX6_removeWord 12 = .ok (.iconst 1, 1) := by decide +kernel
theorem dX6_removeWord_13 : decode cX6_removeWord 13 = .ok (.iadd, 1) := by decide +kernel
theorem dX6_removeWord_14 : decode cX6_removeWord 14 = .ok (.istore_n 2, 1) := by decide +kernel
theorem dX6_removeWord_15 : decode cX6_removeWord 15 = .ok (.iload_n 2, 1) := by decide +kernel
theorem dX6_removeWord_16 : decode cX6_removeWord 16 = .ok (.aload_n 0, 1) := by decide +kernel
theorem dX6_removeWord_17 : decode cX6_removeWord 17 = .ok (.getfield 98, 3) := by decide +kernel
theorem dX6_removeWord_20 : decode cX6_removeWord 20 = .ok (.if_icmp .ge 46, 3) := by decide +kernel
theorem dX6_removeWord_23 : decode cX6_removeWord 23 = .ok (.aload_n 0, 1) := by decide +kernel
theorem dX6_removeWord_24 : decode cX6_removeWord 24 = .ok (.getfield 22, 3) := by decide +kernel
theorem dX6_removeWord_27 : decode cX6_removeWord 27 = .ok (.bipush 8, 2) := by decide +kernel
theorem dX6_removeWord_29 : decode cX6_removeWord 29 = .ok (.iload_n 2, 1) := by decide +kernel
theorem dX6_removeWord_30 : decode cX6_removeWord 30 = .ok (.imul, 1) := by decide +kernel
theorem dX6_removeWord_31 : decode cX6_removeWord 31 = .ok (.aload_n 0, 1) := by decide +kernel
theorem dX6_removeWord_32 : decode cX6_removeWord 32 = .ok (.getfield 22, 3) := by decide +kernel
theorem dX6_removeWord_35 : decode cX6_removeWord 35 = .ok (.bipush 8, 2) := by decide +kernel
theorem dX6_removeWord_37 : decode cX6_removeWord 37 = .ok (.iload_n 2, 1) := by decide +kernel
theorem dX6_removeWord_38 : decode cX6_removeWord 38 = .ok (.iconst 1, 1) := by decide +kernel
theorem dX6_removeWord_39 : decode cX6_removeWord 39 = .ok (.isub, 1) := by decide +kernel
theorem dX6_removeWord_40 : decode cX6_removeWord 40 = .ok (.imul, 1) := by decide +kernel
theorem dX6_removeWord_41 : decode cX6_removeWord 41 = .ok (.bipush 8, 2) := by decide +kernel
theorem dX6_removeWord_43 : decode cX6_removeWord 43 = .ok (.invokestatic 125, 3) := by decide +kernel
theorem dX6_removeWord_46 : decode cX6_removeWord 46 = .ok (.aload_n 0, 1) := by decide +kernel
theorem dX6_removeWord_47 : decode cX6_removeWord 47 = .ok (.getfield 25, 3) := by decide +kernel
theorem dX6_removeWord_50 : decode cX6_removeWord 50 = .ok (.iload_n 2, 1) := by decide +kernel
theorem dX6_removeWord_51 : decode cX6_removeWord 51 = .ok (.iconst 1, 1) := by decide +kernel
theorem dX6_removeWord_52 : decode cX6_removeWord 52 = .ok (.isub, 1) := by decide +kernel
theorem dX6_removeWord_53 : decode cX6_removeWord 53 = .ok (.aload_n 0, 1) := by decide +kernel
theorem dX6_removeWord_54 : decode cX6_removeWord 54 = .ok (.getfield 25, 3) := by decide +kernel
theorem dX6_removeWord_57 : decode cX6_removeWord 57 = .ok (.iload_n 2, 1) := by decide +kernel
theorem dX6_removeWord_58 : decode cX6_removeWord 58 = .ok (.iaload, 1) := by decide +kernel
theorem dX6_removeWord_59 : decode cX6_removeWord 59 = .ok (.iastore, 1) := by decide +kernel
theorem dX6_removeWord_60 : decode cX6_removeWord 60 = .ok (.iinc 2 1, 3) := by decide +kernel
theorem dX6_removeWord_63 : decode cX6_removeWord 63 = .ok (.goto (-48), 3) := by decide +kernel
theorem dX6_removeWord_66 : decode cX6_removeWord 66 = .ok (.aload_n 0, 1) := by decide +kernel
theorem dX6_removeWord_67 : decode cX6_removeWord 67 = .ok (.dup, 1) := by decide +kernel
theorem dX6_removeWord_68 : decode cX6_removeWord 68 = .ok (.getfield 98, 3) := by decide +kernel
theorem dX6_removeWord_71 : decode cX6_removeWord 71 = .ok (.iconst 1, 1) := by decide +kernel
theorem dX6_removeWord_72 : decode cX6_removeWord 72 = .ok (.isub, 1) := by decide +kernel
theorem dX6_removeWord_73 : decode cX6_removeWord 73 = .ok (.putfield 98, 3) := by decide +kernel
theorem dX6_removeWord_76 : decode cX6_removeWord 76 = .ok (.aload_n 0, 1) := by decide +kernel
theorem dX6_removeWord_77 : decode cX6_removeWord 77 = .ok (.getfield 98, 3) := by decide +kernel
theorem dX6_removeWord_80 : decode cX6_removeWord 80 = .ok (.ireturn, 1) := by decide +kernel
theorem dX6_sampleSize_0 : decode cX6_sampleSize 0 = .ok (.aload_n 0, 1) := by decide +kernel
theorem dX6_sampleSize_1 : decode cX6_sampleSize 1 = .ok (.getfield 98, 3) := by decide +kernel
theorem dX6_sampleSize_4 : decode cX6_sampleSize 4 = .ok (.ireturn, 1) := by decide +kernel
theorem dX6_codeOf__0 : decode cX6_codeOf_ 0 = .ok (.lconst 0, 1) := by decide +kernel
theorem dX6_codeOf__1 : decode cX6_codeOf_ 1 = .ok (.lstore_n 3, 1) := by decide +kernel
theorem dX6_codeOf__2 : decode cX6_codeOf_ 2 = .ok (.iload_n 2, 1) := by decide +kernel
theorem dX6_codeOf__3 : decode cX6_codeOf_ 3 = .ok (.iconst 1, 1) := by decide +kernel
theorem dX6_codeOf__4 : decode cX6_codeOf_ 4 = .ok (.isub, 1) := by decide +kernel
theorem dX6_codeOf__5 : decode cX6_codeOf_ 5 = .ok (.istore 5, 2) := by decide +kernel
theorem dX6_codeOf__7 : decode cX6_codeOf_ 7 = .ok (.iload 5, 2) := by decide +kernel
theorem dX6_codeOf__9 : decode cX6_codeOf_ 9 = .ok (.ifCond .lt 25, 3) := by decide +kernel
theorem dX6_codeOf__12 : decode cX6_codeOf_ 12 = .ok (.ldc2_w 239, 3) := by decide +kernel
theorem dX6_codeOf__15 : decode cX6_codeOf_ 15 = .ok (.lload_n 3, 1) := by decide +kernel
theorem dX6_codeOf__16 : decode cX6_codeOf_ 16 = .ok (.lmul, 1) := by decide +kernel
theorem dX6_codeOf__17 : decode cX6_codeOf_ 17 = .ok (.aload_n 0, 1) := by decide +kernel
theorem dX6_codeOf__18 : decode cX6_codeOf_ 18 = .ok (.iload_n 1, 1) := by decide +kernel
theorem dX6_codeOf__19 : decode cX6_codeOf_ 19 = .ok (.iload 5, 2) := by decide +kernel
theorem dX6_codeOf__21 : decode cX6_codeOf_ 21 = .ok (.iadd, 1) := by decide +kernel
theorem dX6_codeOf__22 : decode cX6_codeOf_ 22 = .ok (.iaload, 1) := by decide +kernel
theorem dX6_codeOf__23 : decode cX6_codeOf_ 23 = .ok (.i2l, 1) := by decide +kernel
theorem dX6_codeOf__24 : decode cX6_codeOf_ 24 = .ok (.ladd, 1) := by decide +kernel
theorem dX6_codeOf__25 : decode cX6_codeOf_ 25 = .ok (.lconst 1, 1) := by decide +kernel
theorem dX6_codeOf__26 : decode cX6_codeOf_ 26 = .ok (.ladd, 1) := by decide +kernel
theorem dX6_codeOf__27 : decode cX6_codeOf_ 27 = .ok (.lstore_n 3, 1) := by decide +kernel
theorem dX6_codeOf__28 : decode cX6_codeOf_ 28 = .ok (.iinc 5 (-1), 3) := by decide +kernel
theorem dX6_codeOf__31 : decode cX6_codeOf_ 31 = .ok (.goto (-24), 3) := by decide +kernel
theorem dX6_codeOf__34 : decode cX6_codeOf_ 34 = .ok (.lload_n 3, 1) := by decide +kernel
theorem dX6_codeOf__35 : decode cX6_codeOf_ 35 = .ok (.lreturn, 1) := by decide +kernel
theorem dX6_sampleCode_0 : decode cX6_sampleCode 0 = .ok (.aload_n 0, 1) := by decide +kernel
theorem dX6_sampleCode_1 : decode cX6_sampleCode 1 = .ok (.iload_n 1, 1) := by decide +kernel
theorem dX6_sampleCode_2 : decode cX6_sampleCode 2 = .ok (.invokevirtual 236, 3) := by decide +kernel
theorem dX6_sampleCode_5 : decode cX6_sampleCode 5 = .ok (.ifCond .eq 23, 3) := by decide +kernel
theorem dX6_sampleCode_8 : decode cX6_sampleCode 8 = .ok (.aload_n 0, 1) := by decide +kernel
theorem dX6_sampleCode_9 : decode cX6_sampleCode 9 = .ok (.getfield 22, 3) := by decide +kernel
theorem dX6_sampleCode_12 : decode cX6_sampleCode 12 = .ok (.bipush 8, 2) := by decide +kernel
theorem dX6_sampleCode_14 : decode cX6_sampleCode 14 = .ok (.iload_n 1, 1) := by decide +kernel
theorem dX6_sampleCode_15 : decode cX6_sampleCode 15 = .ok (.imul, 1) := by decide +kernel
theorem dX6_sampleCode_16 : decode cX6_sampleCode 16 = .ok (.aload_n 0, 1) := by decide +kernel
theorem dX6_sampleCode_17 : decode cX6_sampleCode 17 = .ok (.getfield 25, 3) := by decide +kernel
theorem dX6_sampleCode_20 : decode cX6_sampleCode 20 = .ok (.iload_n 1, 1) := by decide +kernel
theorem dX6_sampleCode_21 : decode cX6_sampleCode 21 = .ok (.iaload, 1) := by decide +kernel
theorem dX6_sampleCode_22 : decode cX6_sampleCode 22 = .ok (.invokestatic 241, 3) := by decide +kernel
theorem dX6_sampleCode_25 : decode cX6_sampleCode 25 = .ok (.goto 6, 3) := by decide +kernel
theorem dX6_sampleCode_28 : decode cX6_sampleCode 28 = .ok (.ldc2_w 244, 3) := by decide +kernel
theorem dX6_sampleCode_31 : decode cX6_sampleCode 31 = .ok (.lreturn, 1) := by decide +kernel
theorem dX6_misfit_0 : decode cX6_misfit 0 = .ok (.iconst 0, 1) := by decide +kernel
theorem dX6_misfit_1 : decode cX6_misfit 1 = .ok (.istore 5, 2) := by decide +kernel
theorem dX6_misfit_3 : decode cX6_misfit 3 = .ok (.iload 5, 2) := by decide +kernel
theorem dX6_misfit_5 : decode cX6_misfit 5 = .ok (.aload_n 0, 1) := by decide +kernel
theorem dX6_misfit_6 : decode cX6_misfit 6 = .ok (.getfield 98, 3) := by decide +kernel
theorem dX6_misfit_9 : decode cX6_misfit 9 = .ok (.if_icmp .ge 41, 3) := by decide +kernel
theorem dX6_misfit_12 : decode cX6_misfit 12 = .ok (.aload_n 0, 1) := by decide +kernel
theorem dX6_misfit_13 : decode cX6_misfit 13 = .ok (.aload_n 1, 1) := by decide +kernel
theorem dX6_misfit_14 : decode cX6_misfit 14 = .ok (.iload_n 2, 1) := by decide +kernel
theorem dX6_misfit_15 : decode cX6_misfit 15 = .ok (.iload_n 3, 1) := by decide +kernel
theorem dX6_misfit_16 : decode cX6_misfit 16 = .ok (.aload_n 0, 1) := by decide +kernel
theorem dX6_misfit_17 : decode cX6_misfit 17 = .ok (.getfield 22, 3) := by decide +kernel
theorem dX6_misfit_20 : decode cX6_misfit 20 = .ok (.bipush 8, 2) := by decide +kernel
theorem dX6_misfit_22 : decode cX6_misfit 22 = .ok (.iload 5, 2) := by decide +kernel
theorem dX6_misfit_24 : decode cX6_misfit 24 = .ok (.imul, 1) := by decide +kernel
theorem dX6_misfit_25 : decode cX6_misfit 25 = .ok (.aload_n 0, 1) := by decide +kernel
theorem dX6_misfit_26 : decode cX6_misfit 26 = .ok (.getfield 25, 3) := by decide +kernel
theorem dX6_misfit_29 : decode cX6_misfit 29 = .ok (.iload 5, 2) := by decide +kernel
theorem dX6_misfit_31 : decode cX6_misfit 31 = .ok (.iaload, 1) := by decide +kernel
theorem dX6_misfit_32 : decode cX6_misfit 32 = .ok (.iload 4, 2) := by decide +kernel
theorem dX6_misfit_34 : decode cX6_misfit 34 = .ok (.iconst 1, 1) := by decide +kernel
theorem dX6_misfit_35 : decode cX6_misfit 35 = .ok (.invokevirtual 217, 3) := by decide +kernel
theorem dX6_misfit_38 : decode cX6_misfit 38 = .ok (.ifCond .ne 6, 3) := by decide +kernel
theorem dX6_misfit_41 : decode cX6_misfit 41 = .ok (.iload 5, 2) := by decide +kernel
theorem dX6_misfit_43 : decode cX6_misfit 43 = .ok (.ireturn, 1) := by decide +kernel
theorem dX6_misfit_44 : decode cX6_misfit 44 = .ok (.iinc 5 1, 3) := by decide +kernel
theorem dX6_misfit_47 : decode cX6_misfit 47 = .ok (.goto (-44), 3) := by decide +kernel
theorem dX6_misfit_50 : decode cX6_misfit 50 = .ok (.bipush (-6), 2) := by decide +kernel
theorem dX6_misfit_52 : decode cX6_misfit 52 = .ok (.ireturn, 1) := by decide +kernel
theorem dX6_firstMisfit_0 : decode cX6_firstMisfit 0 = .ok (.iload_n 1, 1) := by decide +kernel
theorem dX6_firstMisfit_1 : decode cX6_firstMisfit 1 = .ok (.invokestatic 139, 3) := by decide +kernel
theorem dX6_firstMisfit_4 : decode cX6_firstMisfit 4 = .ok (.ifCond .ne 6, 3) := by decide +kernel
theorem dX6_firstMisfit_7 : decode cX6_firstMisfit 7 = .ok (.bipush (-2), 2) := by decide +kernel
theorem dX6_firstMisfit_9 : decode cX6_firstMisfit 9 = .ok (.ireturn, 1) := by decide +kernel
theorem dX6_firstMisfit_10 : decode cX6_firstMisfit 10 = .ok (.iload_n 2, 1) := by decide +kernel
theorem dX6_firstMisfit_11 : decode cX6_firstMisfit 11 = .ok (.invokestatic 221, 3) := by decide +kernel
theorem dX6_firstMisfit_14 : decode cX6_firstMisfit 14 = .ok (.ifCond .eq 25, 3) := by decide +kernel
theorem dX6_firstMisfit_17 : decode cX6_firstMisfit 17 = .ok (.aload_n 0, 1) := by decide +kernel
theorem dX6_firstMisfit_18 : decode cX6_firstMisfit 18 = .ok (.aload_n 0, 1) := by decide +kernel
theorem dX6_firstMisfit_19 : decode cX6_firstMisfit 19 = .ok (.getfield 15, 3) := by decide +kernel
theorem dX6_firstMisfit_22 : decode cX6_firstMisfit 22 = .ok (.bipush 8, 2) := by decide +kernel
theorem dX6_firstMisfit_24 : decode cX6_firstMisfit 24 = .ok (.iload_n 1, 1) := by decide +kernel
theorem dX6_firstMisfit_25 : decode cX6_firstMisfit 25 = .ok (.imul, 1) := by decide +kernel
theorem dX6_firstMisfit_26 : decode cX6_firstMisfit 26 = .ok (.aload_n 0, 1) := by decide +kernel
theorem dX6_firstMisfit_27 : decode cX6_firstMisfit 27 = .ok (.getfield 19, 3) := by decide +kernel
theorem dX6_firstMisfit_30 : decode cX6_firstMisfit 30 = .ok (.iload_n 1, 1) := by decide +kernel
theorem dX6_firstMisfit_31 : decode cX6_firstMisfit 31 = .ok (.iaload, 1) := by decide +kernel
theorem dX6_firstMisfit_32 : decode cX6_firstMisfit 32 = .ok (.iload_n 2, 1) := by decide +kernel
theorem dX6_firstMisfit_33 : decode cX6_firstMisfit 33 = .ok (.invokevirtual 246, 3) := by decide +kernel
theorem dX6_firstMisfit_36 : decode cX6_firstMisfit 36 = .ok (.goto 4, 3) := by decide +kernel
theorem dX6_firstMisfit_39 : decode cX6_firstMisfit 39 = .ok (.iconst (-1), 1) := by decide +kernel
theorem dX6_firstMisfit_40 : decode cX6_firstMisfit 40 = .ok (.ireturn, 1) := by decide +kernel
theorem dX6_covers_0 : decode cX6_covers 0 = .ok (.aload_n 0, 1) := by decide +kernel
theorem dX6_covers_1 : decode cX6_covers 1 = .ok (.aload_n 0, 1) := by decide +kernel
theorem dX6_covers_2 : decode cX6_covers 2 = .ok (.getfield 15, 3) := by decide +kernel
theorem dX6_covers_5 : decode cX6_covers 5 = .ok (.bipush 8, 2) := by decide +kernel
theorem dX6_covers_7 : decode cX6_covers 7 = .ok (.iload_n 1, 1) := by decide +kernel
theorem dX6_covers_8 : decode cX6_covers 8 = .ok (.imul, 1) := by decide +kernel
theorem dX6_covers_9 : decode cX6_covers 9 = .ok (.aload_n 0, 1) := by decide +kernel
theorem dX6_covers_10 : decode cX6_covers 10 = .ok (.getfield 19, 3) := by decide +kernel
theorem dX6_covers_13 : decode cX6_covers 13 = .ok (.iload_n 1, 1) := by decide +kernel
theorem dX6_covers_14 : decode cX6_covers 14 = .ok (.iaload, 1) := by decide +kernel
theorem dX6_covers_15 : decode cX6_covers 15 = .ok (.aload_n 0, 1) := by decide +kernel
theorem dX6_covers_16 : decode cX6_covers 16 = .ok (.getfield 15, 3) := by decide +kernel
theorem dX6_covers_19 : decode cX6_covers 19 = .ok (.bipush 8, 2) := by decide +kernel
theorem dX6_covers_21 : decode cX6_covers 21 = .ok (.iload_n 2, 1) := by decide +kernel
theorem dX6_covers_22 : decode cX6_covers 22 = .ok (.imul, 1) := by decide +kernel
theorem dX6_covers_23 : decode cX6_covers 23 = .ok (.aload_n 0, 1) := by decide +kernel
theorem dX6_covers_24 : decode cX6_covers 24 = .ok (.getfield 19, 3) := by decide +kernel
theorem dX6_covers_27 : decode cX6_covers 27 = .ok (.iload_n 2, 1) := by decide +kernel
theorem dX6_covers_28 : decode cX6_covers 28 = .ok (.iaload, 1) := by decide +kernel
theorem dX6_covers_29 : decode cX6_covers 29 = .ok (.iload_n 3, 1) := by decide +kernel
theorem dX6_covers_30 : decode cX6_covers 30 = .ok (.iconst 1, 1) := by decide +kernel
theorem dX6_covers_31 : decode cX6_covers 31 = .ok (.invokevirtual 217, 3) := by decide +kernel
theorem dX6_covers_34 : decode cX6_covers 34 = .ok (.iconst 1, 1) := by decide +kernel
theorem dX6_covers_35 : decode cX6_covers 35 = .ok (.if_icmp .ne 7, 3) := by decide +kernel
theorem dX6_covers_38 : decode cX6_covers 38 = .ok (.iconst 1, 1) := by decide +kernel
theorem dX6_covers_39 : decode cX6_covers 39 = .ok (.goto 4, 3) := by decide +kernel
theorem dX6_covers_42 : decode cX6_covers 42 = .ok (.iconst 0, 1) := by decide +kernel
theorem dX6_covers_43 : decode cX6_covers 43 = .ok (.ireturn, 1) := by decide +kernel
theorem dX6_isMoreGeneral_0 : decode cX6_isMoreGeneral 0 = .ok (.iload_n 1, 1) := by decide +kernel
theorem dX6_isMoreGeneral_1 : decode cX6_isMoreGeneral 1 = .ok (.invokestatic 139, 3) := by decide +kernel
theorem dX6_isMoreGeneral_4 : decode cX6_isMoreGeneral 4 = .ok (.ifCond .eq 10, 3) := by decide +kernel
theorem dX6_isMoreGeneral_7 : decode cX6_isMoreGeneral 7 = .ok (.iload_n 2, 1) := by decide +kernel
theorem dX6_isMoreGeneral_8 : decode cX6_isMoreGeneral 8 = .ok (.invokestatic 139, 3) := by decide +kernel
theorem dX6_isMoreGeneral_11 : decode cX6_isMoreGeneral 11 = .ok (.ifCond .ne 6, 3) := by decide +kernel
theorem dX6_isMoreGeneral_14 : decode cX6_isMoreGeneral 14 = .ok (.bipush (-2), 2) := by decide +kernel
theorem dX6_isMoreGeneral_16 : decode cX6_isMoreGeneral 16 = .ok (.ireturn, 1) := by decide +kernel
theorem dX6_isMoreGeneral_17 : decode cX6_isMoreGeneral 17 = .ok (.iload_n 3, 1) := by decide +kernel
theorem dX6_isMoreGeneral_18 : decode cX6_isMoreGeneral 18 = .ok (.invokestatic 221, 3) := by decide +kernel
theorem dX6_isMoreGeneral_21 : decode cX6_isMoreGeneral 21 = .ok (.ifCond .ne 7, 3) := by decide +kernel
theorem dX6_isMoreGeneral_24 : decode cX6_isMoreGeneral 24 = .ok (.iconst (-1), 1) := by decide +kernel
theorem dX6_isMoreGeneral_25 : decode cX6_isMoreGeneral 25 = .ok (.goto 18, 3) := by decide +kernel
theorem dX6_isMoreGeneral_28 : decode cX6_isMoreGeneral 28 = .ok (.aload_n 0, 1) := by decide +kernel
theorem dX6_isMoreGeneral_29 : decode cX6_isMoreGeneral 29 = .ok (.iload_n 1, 1) := by decide +kernel
theorem dX6_isMoreGeneral_30 : decode cX6_isMoreGeneral 30 = .ok (.iload_n 2, 1) := by decide +kernel
theorem dX6_isMoreGeneral_31 : decode cX6_isMoreGeneral 31 = .ok (.iload_n 3, 1) := by decide +kernel
theorem dX6_isMoreGeneral_32 : decode cX6_isMoreGeneral 32 = .ok (.invokevirtual 250, 3) := by decide +kernel
theorem dX6_isMoreGeneral_35 : decode cX6_isMoreGeneral 35 = .ok (.ifCond .eq 7, 3) := by decide +kernel
theorem dX6_isMoreGeneral_38 : decode cX6_isMoreGeneral 38 = .ok (.iconst 1, 1) := by decide +kernel
theorem dX6_isMoreGeneral_39 : decode cX6_isMoreGeneral 39 = .ok (.goto 4, 3) := by decide +kernel
theorem dX6_isMoreGeneral_42 : decode cX6_isMoreGeneral 42 = .ok (.iconst 0, 1) := by decide +kernel
theorem dX6_isMoreGeneral_43 : decode cX6_isMoreGeneral 43 = .ok (.ireturn, 1) := by decide +kernel
theorem dX6_chainBreak_0 : decode cX6_chainBreak 0 = .ok (.iload_n 1, 1) := by decide +kernel
theorem dX6_chainBreak_1 : decode cX6_chainBreak 1 = .ok (.invokestatic 139, 3) := by decide +kernel
theorem dX6_chainBreak_4 : decode cX6_chainBreak 4 = .ok (.ifCond .eq 10, 3) := by decide +kernel
theorem dX6_chainBreak_7 : decode cX6_chainBreak 7 = .ok (.iload_n 2, 1) := by decide +kernel
theorem dX6_chainBreak_8 : decode cX6_chainBreak 8 = .ok (.invokestatic 139, 3) := by decide +kernel
theorem dX6_chainBreak_11 : decode cX6_chainBreak 11 = .ok (.ifCond .ne 6, 3) := by decide +kernel
theorem dX6_chainBreak_14 : decode cX6_chainBreak 14 = .ok (.bipush (-2), 2) := by decide +kernel
theorem dX6_chainBreak_16 : decode cX6_chainBreak 16 = .ok (.ireturn, 1) := by decide +kernel
theorem dX6_chainBreak_17 : decode cX6_chainBreak 17 = .ok (.iload_n 2, 1) := by decide +kernel
theorem dX6_chainBreak_18 : decode cX6_chainBreak 18 = .ok (.iload_n 1, 1) := by decide +kernel
theorem dX6_chainBreak_19 : decode cX6_chainBreak 19 = .ok (.if_icmp .lt 10, 3) := by decide +kernel
theorem dX6_chainBreak_22 : decode cX6_chainBreak 22 = .ok (.iload_n 3, 1) := by decide +kernel
theorem dX6_chainBreak_23 : decode cX6_chainBreak 23 = .ok (.invokestatic 221, 3) := by decide +kernel
theorem dX6_chainBreak_26 : decode cX6_chainBreak 26 = .ok (.ifCond .ne 5, 3) := by decide +kernel
theorem dX6_chainBreak_29 : decode cX6_chainBreak 29 = .ok (.iconst (-1), 1) := by decide +kernel
theorem dX6_chainBreak_30 : decode cX6_chainBreak 30 = .ok (.ireturn, 1) := by decide +kernel
theorem dX6_chainBreak_31 : decode cX6_chainBreak 31 = .ok (.iload_n 1, 1) := by decide +kernel
theorem dX6_chainBreak_32 : decode cX6_chainBreak 32 = .ok (.istore 4, 2) := by decide +kernel
theorem dX6_chainBreak_34 : decode cX6_chainBreak 34 = .ok (.iload 4, 2) := by decide +kernel
theorem dX6_chainBreak_36 : decode cX6_chainBreak 36 = .ok (.iload_n 2, 1) := by decide +kernel
theorem dX6_chainBreak_37 : decode cX6_chainBreak 37 = .ok (.if_icmp .ge 40, 3) := by decide +kernel
theorem dX6_chainBreak_40 : decode cX6_chainBreak 40 = .ok (.aload_n 0, 1) := by decide +kernel
theorem dX6_chainBreak_41 : decode cX6_chainBreak 41 = .ok (.iload 4, 2) := by decide +kernel
theorem dX6_chainBreak_43 : decode cX6_chainBreak 43 = .ok (.iload 4, 2) := by decide +kernel
theorem dX6_chainBreak_45 : decode cX6_chainBreak 45 = .ok (.iconst 1, 1) := by decide +kernel
theorem dX6_chainBreak_46 : decode cX6_chainBreak 46 = .ok (.iadd, 1) := by decide +kernel
theorem dX6_chainBreak_47 : decode cX6_chainBreak 47 = .ok (.iload_n 3, 1) := by decide +kernel
theorem dX6_chainBreak_48 : decode cX6_chainBreak 48 = .ok (.invokevirtual 250, 3) := by decide +kernel
theorem dX6_chainBreak_51 : decode cX6_chainBreak 51 = .ok (.ifCond .eq 17, 3) := by decide +kernel
theorem dX6_chainBreak_54 : decode cX6_chainBreak 54 = .ok (.aload_n 0, 1) := by decide +kernel
theorem dX6_chainBreak_55 : decode cX6_chainBreak 55 = .ok (.iload 4, 2) := by decide +kernel
theorem dX6_chainBreak_57 : decode cX6_chainBreak 57 = .ok (.iconst 1, 1) := by decide +kernel
theorem dX6_chainBreak_58 : decode cX6_chainBreak 58 = .ok (.iadd, 1) := by decide +kernel
theorem dX6_chainBreak_59 : decode cX6_chainBreak 59 = .ok (.iload 4, 2) := by decide +kernel
theorem dX6_chainBreak_61 : decode cX6_chainBreak 61 = .ok (.iload_n 3, 1) := by decide +kernel
theorem dX6_chainBreak_62 : decode cX6_chainBreak 62 = .ok (.invokevirtual 250, 3) := by decide +kernel
theorem dX6_chainBreak_65 : decode cX6_chainBreak 65 = .ok (.ifCond .eq 6, 3) := by decide +kernel
theorem dX6_chainBreak_68 : decode cX6_chainBreak 68 = .ok (.iload 4, 2) := by decide +kernel
theorem dX6_chainBreak_70 : decode cX6_chainBreak 70 = .ok (.ireturn, 1) := by decide +kernel
theorem dX6_chainBreak_71 : decode cX6_chainBreak 71 = .ok (.iinc 4 1, 3) := by decide +kernel
theorem dX6_chainBreak_74 : decode cX6_chainBreak 74 = .ok (.goto (-40), 3) := by decide +kernel
theorem dX6_chainBreak_77 : decode cX6_chainBreak 77 = .ok (.bipush (-6), 2) := by decide +kernel
theorem dX6_chainBreak_79 : decode cX6_chainBreak 79 = .ok (.ireturn, 1) := by decide +kernel
theorem dX6_search_0 : decode cX6_search 0 = .ok (.iload_n 1, 1) := by decide +kernel
theorem dX6_search_1 : decode cX6_search 1 = .ok (.iload_n 2, 1) := by decide +kernel
theorem dX6_search_2 : decode cX6_search 2 = .ok (.if_icmp .ne 87, 3) := by decide +kernel
theorem dX6_search_5 : decode cX6_search 5 = .ok (.iload 4, 2) := by decide +kernel
theorem dX6_search_7 : decode cX6_search 7 = .ok (.iconst 1, 1) := by decide +kernel
theorem dX6_search_8 : decode cX6_search 8 = .ok (.if_icmp .gt 8, 3) := by decide +kernel
theorem dX6_search_11 : decode cX6_search 11 = .ok (.iload_n 3, 1) := by decide +kernel
theorem dX6_search_12 : decode cX6_search 12 = .ok (.iconst 1, 1) := by decide +kernel
theorem dX6_search_13 : decode cX6_search 13 = .ok (.if_icmp .ne 7, 3) := by decide +kernel
theorem dX6_search_16 : decode cX6_search 16 = .ok (.iconst 1, 1) := by decide +kernel
theorem dX6_search_17 : decode cX6_search 17 = .ok (.goto 4, 3) := by decide +kernel
theorem dX6_search_20 : decode cX6_search 20 = .ok (.iconst 0, 1) := by decide +kernel
theorem dX6_search_21 : decode cX6_search 21 = .ok (.istore 6, 2) := by decide +kernel
theorem dX6_search_23 : decode cX6_search 23 = .ok (.iload 6, 2) := by decide +kernel
theorem dX6_search_25 : decode cX6_search 25 = .ok (.ifCond .eq 63, 3) := by decide +kernel
theorem dX6_search_28 : decode cX6_search 28 = .ok (.aload_n 0, 1) := by decide +kernel
theorem dX6_search_29 : decode cX6_search 29 = .ok (.getfield 253, 3) := by decide +kernel
theorem dX6_search_32 : decode cX6_search 32 = .ok (.ifCond .eq 20, 3) := by decide +kernel
theorem dX6_search_35 : decode cX6_search 35 = .ok (.aload_n 0, 1) := by decide +kernel
theorem dX6_search_36 : decode cX6_search 36 = .ok (.getfield 55, 3) := by decide +kernel
theorem dX6_search_39 : decode cX6_search 39 = .ok (.iconst 0, 1) := by decide +kernel
theorem dX6_search_40 : decode cX6_search 40 = .ok (.aload_n 0, 1) := by decide +kernel
theorem dX6_search_41 : decode cX6_search 41 = .ok (.getfield 58, 3) := by decide +kernel
theorem dX6_search_44 : decode cX6_search 44 = .ok (.iconst 0, 1) := by decide +kernel
theorem dX6_search_45 : decode cX6_search 45 = .ok (.iload_n 2, 1) := by decide +kernel
theorem dX6_search_46 : decode cX6_search 46 = .ok (.invokestatic 163, 3) := by decide +kernel
theorem dX6_search_49 : decode cX6_search 49 = .ok (.ifCond .le 39, 3) := by decide +kernel
theorem dX6_search_52 : decode cX6_search 52 = .ok (.aload_n 0, 1) := by decide +kernel
theorem dX6_search_53 : decode cX6_search 53 = .ok (.aload_n 0, 1) := by decide +kernel
theorem dX6_search_54 : decode cX6_search 54 = .ok (.getfield 55, 3) := by decide +kernel
theorem dX6_search_57 : decode cX6_search 57 = .ok (.iconst 0, 1) := by decide +kernel
theorem dX6_search_58 : decode cX6_search 58 = .ok (.iload_n 2, 1) := by decide +kernel
theorem dX6_search_59 : decode cX6_search 59 = .ok (.iload 5, 2) := by decide +kernel
theorem dX6_search_61 : decode cX6_search 61 = .ok (.invokevirtual 246, 3) := by decide +kernel
theorem dX6_search_64 : decode cX6_search 64 = .ok (.bipush (-6), 2) := by decide +kernel
theorem dX6_search_66 : decode cX6_search 66 = .ok (.if_icmp .ne 22, 3) := by decide +kernel
theorem dX6_search_69 : decode cX6_search 69 = .ok (.aload_n 0, 1) := by decide +kernel
theorem dX6_search_70 : decode cX6_search 70 = .ok (.getfield 55, 3) := by decide +kernel
theorem dX6_search_73 : decode cX6_search 73 = .ok (.iconst 0, 1) := by decide +kernel
theorem dX6_search_74 : decode cX6_search 74 = .ok (.aload_n 0, 1) := by decide +kernel
theorem dX6_search_75 : decode cX6_search 75 = .ok (.getfield 58, 3) := by decide +kernel
theorem dX6_search_78 : decode cX6_search 78 = .ok (.iconst 0, 1) := by decide +kernel
theorem dX6_search_79 : decode cX6_search 79 = .ok (.iload_n 2, 1) := by decide +kernel
theorem dX6_search_80 : decode cX6_search 80 = .ok (.invokestatic 125, 3) := by decide +kernel
theorem dX6_search_83 : decode cX6_search 83 = .ok (.aload_n 0, 1) := by decide +kernel
theorem dX6_search_84 : decode cX6_search 84 = .ok (.iconst 1, 1) := by decide +kernel
theorem dX6_search_85 : decode cX6_search 85 = .ok (.putfield 253, 3) := by decide +kernel
theorem dX6_search_88 : decode cX6_search 88 = .ok (.return_, 1) := by decide +kernel
theorem dX6_search_89 : decode cX6_search 89 = .ok (.iconst 0, 1) := by decide +kernel
theorem dX6_search_90 : decode cX6_search 90 = .ok (.istore 6, 2) := by decide +kernel
theorem dX6_search_92 : decode cX6_search 92 = .ok (.iload 6, 2) := by decide +kernel
theorem dX6_search_94 : decode cX6_search 94 = .ok (.aload_n 0, 1) := by decide +kernel
theorem dX6_search_95 : decode cX6_search 95 = .ok (.getfield 9, 3) := by decide +kernel
theorem dX6_search_98 : decode cX6_search 98 = .ok (.if_icmp .ge 30, 3) := by decide +kernel
theorem dX6_search_101 : decode cX6_search 101 = .ok (.aload_n 0, 1) := by decide +kernel
theorem dX6_search_102 : decode cX6_search 102 = .ok (.getfield 55, 3) := by decide +kernel
theorem dX6_search_105 : decode cX6_search 105 = .ok (.iload_n 1, 1) := by decide +kernel
theorem dX6_search_106 : decode cX6_search 106 = .ok (.iload 6, 2) := by decide +kernel
theorem dX6_search_108 : decode cX6_search 108 = .ok (.iastore, 1) := by decide +kernel
theorem dX6_search_109 : decode cX6_search 109 = .ok (.aload_n 0, 1) := by decide +kernel
theorem dX6_search_110 : decode cX6_search 110 = .ok (.iload_n 1, 1) := by decide +kernel
theorem dX6_search_111 : decode cX6_search 111 = .ok (.iconst 1, 1) := by decide +kernel
theorem dX6_search_112 : decode cX6_search 112 = .ok (.iadd, 1) := by decide +kernel
theorem dX6_search_113 : decode cX6_search 113 = .ok (.iload_n 2, 1) := by decide +kernel
theorem dX6_search_114 : decode cX6_search 114 = .ok (.iload_n 3, 1) := by decide +kernel
theorem dX6_search_115 : decode cX6_search 115 = .ok (.iload 4, 2) := by decide +kernel
theorem dX6_search_117 : decode cX6_search 117 = .ok (.iload 5, 2) := by decide +kernel
theorem dX6_search_119 : decode cX6_search 119 = .ok (.invokevirtual 257, 3) := by decide +kernel
theorem dX6_search_122 : decode cX6_search 122 = .ok (.iinc 6 1, 3) := by decide +kernel
theorem dX6_search_125 : decode cX6_search 125 = .ok (.goto (-33), 3) := by decide +kernel
theorem dX6_search_128 : decode cX6_search 128 = .ok (.iconst 0, 1) := by decide +kernel
theorem dX6_search_129 : decode cX6_search 129 = .ok (.istore 6, 2) := by decide +kernel
theorem dX6_search_131 : decode cX6_search 131 = .ok (.iload 6, 2) := by decide +kernel
theorem dX6_search_133 : decode cX6_search 133 = .ok (.iload_n 3, 1) := by decide +kernel
theorem dX6_search_134 : decode cX6_search 134 = .ok (.if_icmp .gt 52, 3) := by decide +kernel
theorem dX6_search_137 : decode cX6_search 137 = .ok (.iload 6, 2) := by decide +kernel
theorem dX6_search_139 : decode cX6_search 139 = .ok (.iload 4, 2) := by decide +kernel
theorem dX6_search_141 : decode cX6_search 141 = .ok (.if_icmp .ge 45, 3) := by decide +kernel
theorem dX6_search_144 : decode cX6_search 144 = .ok (.aload_n 0, 1) := by decide +kernel
theorem dX6_search_145 : decode cX6_search 145 = .ok (.getfield 55, 3) := by decide +kernel
theorem dX6_search_148 : decode cX6_search 148 = .ok (.iload_n 1, 1) := by decide +kernel
theorem dX6_search_149 : decode cX6_search 149 = .ok (.bipush 10, 2) := by decide +kernel
theorem dX6_search_151 : decode cX6_search 151 = .ok (.iload 6, 2) := by decide +kernel
theorem dX6_search_153 : decode cX6_search 153 = .ok (.iadd, 1) := by decide +kernel
theorem dX6_search_154 : decode cX6_search 154 = .ok (.iastore, 1) := by decide +kernel
theorem dX6_search_155 : decode cX6_search 155 = .ok (.aload_n 0, 1) := by decide +kernel
theorem dX6_search_156 : decode cX6_search 156 = .ok (.iload_n 1, 1) := by decide +kernel
theorem dX6_search_157 : decode cX6_search 157 = .ok (.iconst 1, 1) := by decide +kernel
theorem dX6_search_158 : decode cX6_search 158 = .ok (.iadd, 1) := by decide +kernel
theorem dX6_search_159 : decode cX6_search 159 = .ok (.iload_n 2, 1) := by decide +kernel
theorem dX6_search_160 : decode cX6_search 160 = .ok (.iload 6, 2) := by decide +kernel
theorem dX6_search_162 : decode cX6_search 162 = .ok (.iload_n 3, 1) := by decide +kernel
theorem dX6_search_163 : decode cX6_search 163 = .ok (.if_icmp .ne 9, 3) := by decide +kernel
theorem dX6_search_166 : decode cX6_search 166 = .ok (.iload_n 3, 1) := by decide +kernel
theorem dX6_search_167 : decode cX6_search 167 = .ok (.iconst 1, 1) := by decide +kernel
theorem dX6_search_168 : decode cX6_search 168 = .ok (.iadd, 1) := by decide +kernel
theorem dX6_search_169 : decode cX6_search 169 = .ok (.goto 4, 3) := by decide +kernel
theorem dX6_search_172 : decode cX6_search 172 = .ok (.iload_n 3, 1) := by decide +kernel
theorem dX6_search_173 : decode cX6_search 173 = .ok (.iload 4, 2) := by decide +kernel
theorem dX6_search_175 : decode cX6_search 175 = .ok (.iload 5, 2) := by decide +kernel
theorem dX6_search_177 : decode cX6_search 177 = .ok (.invokevirtual 257, 3) := by decide +kernel
theorem dX6_search_180 : decode cX6_search 180 = .ok (.iinc 6 1, 3) := by decide +kernel
theorem dX6_search_183 : decode cX6_search 183 = .ok (.goto (-52), 3) := by decide +kernel
theorem dX6_search_186 : decode cX6_search 186 = .ok (.return_, 1) := by decide +kernel
theorem dX6_storeBest_0 : decode cX6_storeBest 0 = .ok (.aload_n 0, 1) := by decide +kernel
theorem dX6_storeBest_1 : decode cX6_storeBest 1 = .ok (.getfield 58, 3) := by decide +kernel
theorem dX6_storeBest_4 : decode cX6_storeBest 4 = .ok (.iconst 0, 1) := by decide +kernel
theorem dX6_storeBest_5 : decode cX6_storeBest 5 = .ok (.aload_n 0, 1) := by decide +kernel
theorem dX6_storeBest_6 : decode cX6_storeBest 6 = .ok (.getfield 15, 3) := by decide +kernel
theorem dX6_storeBest_9 : decode cX6_storeBest 9 = .ok (.bipush 8, 2) := by decide +kernel
theorem dX6_storeBest_11 : decode cX6_storeBest 11 = .ok (.iload_n 1, 1) := by decide +kernel
theorem dX6_storeBest_12 : decode cX6_storeBest 12 = .ok (.imul, 1) := by decide +kernel
theorem dX6_storeBest_13 : decode cX6_storeBest 13 = .ok (.iload_n 2, 1) := by decide +kernel
theorem dX6_storeBest_14 : decode cX6_storeBest 14 = .ok (.invokestatic 125, 3) := by decide +kernel
theorem dX6_storeBest_17 : decode cX6_storeBest 17 = .ok (.aload_n 0, 1) := by decide +kernel
theorem dX6_storeBest_18 : decode cX6_storeBest 18 = .ok (.getfield 19, 3) := by decide +kernel
theorem dX6_storeBest_21 : decode cX6_storeBest 21 = .ok (.iload_n 1, 1) := by decide +kernel
theorem dX6_storeBest_22 : decode cX6_storeBest 22 = .ok (.iload_n 2, 1) := by decide +kernel
theorem dX6_storeBest_23 : decode cX6_storeBest 23 = .ok (.iastore, 1) := by decide +kernel
theorem dX6_storeBest_24 : decode cX6_storeBest 24 = .ok (.return_, 1) := by decide +kernel
theorem dX6_findPattern_0 : decode cX6_findPattern 0 = .ok (.iload_n 1, 1) := by decide +kernel
theorem dX6_findPattern_1 : decode cX6_findPattern 1 = .ok (.invokestatic 139, 3) := by decide +kernel
theorem dX6_findPattern_4 : decode cX6_findPattern 4 = .ok (.ifCond .ne 6, 3) := by decide +kernel
theorem dX6_findPattern_7 : decode cX6_findPattern 7 = .ok (.bipush (-2), 2) := by decide +kernel
theorem dX6_findPattern_9 : decode cX6_findPattern 9 = .ok (.ireturn, 1) := by decide +kernel
theorem dX6_findPattern_10 : decode cX6_findPattern 10 = .ok (.iload_n 2, 1) := by decide +kernel
theorem dX6_findPattern_11 : decode cX6_findPattern 11 = .ok (.iconst 1, 1) := by decide +kernel
theorem dX6_findPattern_12 : decode cX6_findPattern 12 = .ok (.iconst 5, 1) := by decide +kernel
theorem dX6_findPattern_13 : decode cX6_findPattern 13 = .ok (.invokestatic 101, 3) := by decide +kernel
theorem dX6_findPattern_16 : decode cX6_findPattern 16 = .ok (.ifCond .eq 10, 3) := by decide +kernel
theorem dX6_findPattern_19 : decode cX6_findPattern 19 = .ok (.iload_n 3, 1) := by decide +kernel
theorem dX6_findPattern_20 : decode cX6_findPattern 20 = .ok (.invokestatic 221, 3) := by decide +kernel
theorem dX6_findPattern_23 : decode cX6_findPattern 23 = .ok (.ifCond .ne 5, 3) := by decide +kernel
theorem dX6_findPattern_26 : decode cX6_findPattern 26 = .ok (.iconst (-1), 1) := by decide +kernel
theorem dX6_findPattern_27 : decode cX6_findPattern 27 = .ok (.ireturn, 1) := by decide +kernel
theorem dX6_findPattern_28 : decode cX6_findPattern 28 = .ok (.aload_n 0, 1) := by decide +kernel
theorem dX6_findPattern_29 : decode cX6_findPattern 29 = .ok (.iconst 0, 1) := by decide +kernel
theorem dX6_findPattern_30 : decode cX6_findPattern 30 = .ok (.putfield 253, 3) := by decide +kernel
theorem dX6_findPattern_33 : decode cX6_findPattern 33 = .ok (.aload_n 0, 1) := by decide +kernel
theorem dX6_findPattern_34 : decode cX6_findPattern 34 = .ok (.iconst 0, 1) := by decide +kernel
theorem dX6_findPattern_35 : decode cX6_findPattern 35 = .ok (.iload_n 2, 1) := by decide +kernel
theorem dX6_findPattern_36 : decode cX6_findPattern 36 = .ok (.iconst 0, 1) := by decide +kernel
theorem dX6_findPattern_37 : decode cX6_findPattern 37 = .ok (.iconst 4, 1) := by decide +kernel
theorem dX6_findPattern_38 : decode cX6_findPattern 38 = .ok (.iload_n 3, 1) := by decide +kernel
theorem dX6_findPattern_39 : decode cX6_findPattern 39 = .ok (.invokevirtual 257, 3) := by decide +kernel
theorem dX6_findPattern_42 : decode cX6_findPattern 42 = .ok (.aload_n 0, 1) := by decide +kernel
theorem dX6_findPattern_43 : decode cX6_findPattern 43 = .ok (.getfield 253, 3) := by decide +kernel
theorem dX6_findPattern_46 : decode cX6_findPattern 46 = .ok (.ifCond .ne 6, 3) := by decide +kernel
theorem dX6_findPattern_49 : decode cX6_findPattern 49 = .ok (.bipush (-6), 2) := by decide +kernel
theorem dX6_findPattern_51 : decode cX6_findPattern 51 = .ok (.ireturn, 1) := by decide +kernel
theorem dX6_findPattern_52 : decode cX6_findPattern 52 = .ok (.aload_n 0, 1) := by decide +kernel
theorem dX6_findPattern_53 : decode cX6_findPattern 53 = .ok (.iload_n 1, 1) := by decide +kernel
theorem dX6_findPattern_54 : decode cX6_findPattern 54 = .ok (.iload_n 2, 1) := by decide +kernel
theorem dX6_findPattern_55 : decode cX6_findPattern 55 = .ok (.invokevirtual 261, 3) := by decide +kernel
theorem dX6_findPattern_58 : decode cX6_findPattern 58 = .ok (.aload_n 0, 1) := by decide +kernel
theorem dX6_findPattern_59 : decode cX6_findPattern 59 = .ok (.getfield 58, 3) := by decide +kernel
theorem dX6_findPattern_62 : decode cX6_findPattern 62 = .ok (.iconst 0, 1) := by decide +kernel
theorem dX6_findPattern_63 : decode cX6_findPattern 63 = .ok (.iload_n 2, 1) := by decide +kernel
theorem dX6_findPattern_64 : decode cX6_findPattern 64 = .ok (.invokestatic 160, 3) := by decide +kernel
theorem dX6_findPattern_67 : decode cX6_findPattern 67 = .ok (.ireturn, 1) := by decide +kernel
theorem dX6_findOneVariable_0 : decode cX6_findOneVariable 0 = .ok (.iload_n 1, 1) := by decide +kernel
theorem dX6_findOneVariable_1 : decode cX6_findOneVariable 1 = .ok (.invokestatic 139, 3) := by decide +kernel
theorem dX6_findOneVariable_4 : decode cX6_findOneVariable 4 = .ok (.ifCond .ne 6, 3) := by decide +kernel
theorem dX6_findOneVariable_7 : decode cX6_findOneVariable 7 = .ok (.bipush (-2), 2) := by decide +kernel
theorem dX6_findOneVariable_9 : decode cX6_findOneVariable 9 = .ok (.ireturn, 1) := by decide +kernel
theorem dX6_findOneVariable_10 : decode cX6_findOneVariable 10 = .ok (.aload_n 0, 1) := by decide +kernel
theorem dX6_findOneVariable_11 : decode cX6_findOneVariable 11 = .ok (.iconst 0, 1) := by decide +kernel
theorem dX6_findOneVariable_12 : decode cX6_findOneVariable 12 = .ok (.putfield 253, 3) := by decide +kernel
theorem dX6_findOneVariable_15 : decode cX6_findOneVariable 15 = .ok (.bipush 7, 2) := by decide +kernel
theorem dX6_findOneVariable_17 : decode cX6_findOneVariable 17 = .ok (.istore_n 2, 1) := by decide +kernel
theorem dX6_findOneVariable_18 : decode cX6_findOneVariable 18 = .ok (.iload_n 2, 1) := by decide +kernel
theorem dX6_findOneVariable_19 : decode cX6_findOneVariable 19 = .ok (.iconst 1, 1) := by decide +kernel
theorem dX6_findOneVariable_20 : decode cX6_findOneVariable 20 = .ok (.if_icmp .lt 33, 3) := by decide +kernel
theorem dX6_findOneVariable_23 : decode cX6_findOneVariable 23 = .ok (.aload_n 0, 1) := by decide +kernel
theorem dX6_findOneVariable_24 : decode cX6_findOneVariable 24 = .ok (.iconst 0, 1) := by decide +kernel
theorem dX6_findOneVariable_25 : decode cX6_findOneVariable 25 = .ok (.iload_n 2, 1) := by decide +kernel
theorem dX6_findOneVariable_26 : decode cX6_findOneVariable 26 = .ok (.iconst 0, 1) := by decide +kernel
theorem dX6_findOneVariable_27 : decode cX6_findOneVariable 27 = .ok (.iconst 1, 1) := by decide +kernel
theorem dX6_findOneVariable_28 : decode cX6_findOneVariable 28 = .ok (.iconst 0, 1) := by decide +kernel
theorem dX6_findOneVariable_29 : decode cX6_findOneVariable 29 = .ok (.invokevirtual 257, 3) := by decide +kernel
theorem dX6_findOneVariable_32 : decode cX6_findOneVariable 32 = .ok (.aload_n 0, 1) := by decide +kernel
theorem dX6_findOneVariable_33 : decode cX6_findOneVariable 33 = .ok (.getfield 253, 3) := by decide +kernel
theorem dX6_findOneVariable_36 : decode cX6_findOneVariable 36 = .ok (.ifCond .eq 11, 3) := by decide +kernel
theorem dX6_findOneVariable_39 : decode cX6_findOneVariable 39 = .ok (.aload_n 0, 1) := by decide +kernel
theorem dX6_findOneVariable_40 : decode cX6_findOneVariable 40 = .ok (.iload_n 1, 1) := by decide +kernel
theorem dX6_findOneVariable_41 : decode cX6_findOneVariable 41 = .ok (.iload_n 2, 1) := by decide +kernel
theorem dX6_findOneVariable_42 : decode cX6_findOneVariable 42 = .ok (.invokevirtual 261, 3) := by decide +kernel
theorem dX6_findOneVariable_45 : decode cX6_findOneVariable 45 = .ok (.iload_n 2, 1) := by decide +kernel
theorem dX6_findOneVariable_46 : decode cX6_findOneVariable 46 = .ok (.ireturn, 1) := by decide +kernel
theorem dX6_findOneVariable_47 : decode cX6_findOneVariable 47 = .ok (.iinc 2 (-1), 3) := by decide +kernel
theorem dX6_findOneVariable_50 : decode cX6_findOneVariable 50 = .ok (.goto (-32), 3) := by decide +kernel
theorem dX6_findOneVariable_53 : decode cX6_findOneVariable 53 = .ok (.bipush (-6), 2) := by decide +kernel
theorem dX6_findOneVariable_55 : decode cX6_findOneVariable 55 = .ok (.ireturn, 1) := by decide +kernel
theorem dX6_nextWord_0 : decode cX6_nextWord 0 = .ok (.iload_n 1, 1) := by decide +kernel
theorem dX6_nextWord_1 : decode cX6_nextWord 1 = .ok (.iconst 1, 1) := by decide +kernel
theorem dX6_nextWord_2 : decode cX6_nextWord 2 = .ok (.isub, 1) := by decide +kernel
theorem dX6_nextWord_3 : decode cX6_nextWord 3 = .ok (.istore_n 2, 1) := by decide +kernel
theorem dX6_nextWord_4 : decode cX6_nextWord 4 = .ok (.iload_n 2, 1) := by decide +kernel
theorem dX6_nextWord_5 : decode cX6_nextWord 5 = .ok (.ifCond .lt 31, 3) := by decide +kernel
theorem dX6_nextWord_8 : decode cX6_nextWord 8 = .ok (.aload_n 0, 1) := by decide +kernel
theorem dX6_nextWord_9 : decode cX6_nextWord 9 = .ok (.getfield 61, 3) := by decide +kernel
theorem dX6_nextWord_12 : decode cX6_nextWord 12 = .ok (.iload_n 2, 1) := by decide +kernel
theorem dX6_nextWord_13 : decode cX6_nextWord 13 = .ok (.iaload, 1) := by decide +kernel
theorem dX6_nextWord_14 : decode cX6_nextWord 14 = .ok (.aload_n 0, 1) := by decide +kernel
theorem dX6_nextWord_15 : decode cX6_nextWord 15 = .ok (.getfield 9, 3) := by decide +kernel
theorem dX6_nextWord_18 : decode cX6_nextWord 18 = .ok (.iconst 1, 1) := by decide +kernel
theorem dX6_nextWord_19 : decode cX6_nextWord 19 = .ok (.isub, 1) := by decide +kernel
theorem dX6_nextWord_20 : decode cX6_nextWord 20 = .ok (.if_icmp .ne 16, 3) := by decide +kernel
theorem dX6_nextWord_23 : decode cX6_nextWord 23 = .ok (.aload_n 0, 1) := by decide +kernel
theorem dX6_nextWord_24 : decode cX6_nextWord 24 = .ok (.getfield 61, 3) := by decide +kernel
theorem dX6_nextWord_27 : decode cX6_nextWord 27 = .ok (.iload_n 2, 1) := by decide +kernel
theorem dX6_nextWord_28 : decode cX6_nextWord 28 = .ok (.iconst 0, 1) := by decide +kernel
theorem dX6_nextWord_29 : decode cX6_nextWord 29 = .ok (.iastore, 1) := by decide +kernel
theorem dX6_nextWord_30 : decode cX6_nextWord 30 = .ok (.iinc 2 (-1), 3) := by decide +kernel
theorem dX6_nextWord_33 : decode cX6_nextWord 33 = .ok (.goto (-29), 3) := by decide +kernel
theorem dX6_nextWord_36 : decode cX6_nextWord 36 = .ok (.iload_n 2, 1) := by decide +kernel
theorem dX6_nextWord_37 : decode cX6_nextWord 37 = .ok (.ifCond .lt 13, 3) := by decide +kernel
theorem dX6_nextWord_40 : decode cX6_nextWord 40 = .ok (.aload_n 0, 1) := by decide +kernel
theorem dX6_nextWord_41 : decode cX6_nextWord 41 = .ok (.getfield 61, 3) := by decide +kernel
theorem dX6_nextWord_44 : decode cX6_nextWord 44 = .ok (.iload_n 2, 1) := by decide +kernel
theorem dX6_nextWord_45 : decode cX6_nextWord 45 = .ok (.dup2, 1) := by decide +kernel
theorem dX6_nextWord_46 : decode cX6_nextWord 46 = .ok (.iaload, 1) := by decide +kernel
theorem dX6_nextWord_47 : decode cX6_nextWord 47 = .ok (.iconst 1, 1) := by decide +kernel
theorem dX6_nextWord_48 : decode cX6_nextWord 48 = .ok (.iadd, 1) := by decide +kernel
theorem dX6_nextWord_49 : decode cX6_nextWord 49 = .ok (.iastore, 1) := by decide +kernel
theorem dX6_nextWord_50 : decode cX6_nextWord 50 = .ok (.iload_n 2, 1) := by decide +kernel
theorem dX6_nextWord_51 : decode cX6_nextWord 51 = .ok (.ifCond .lt 7, 3) := by decide +kernel
theorem dX6_nextWord_54 : decode cX6_nextWord 54 = .ok (.iconst 1, 1) := by decide +kernel
theorem dX6_nextWord_55 : decode cX6_nextWord 55 = .ok (.goto 4, 3) := by decide +kernel
theorem dX6_nextWord_58 : decode cX6_nextWord 58 = .ok (.iconst 0, 1) := by decide +kernel
theorem dX6_nextWord_59 : decode cX6_nextWord 59 = .ok (.ireturn, 1) := by decide +kernel
theorem dX6_firstWord_0 : decode cX6_firstWord 0 = .ok (.iconst 0, 1) := by decide +kernel
theorem dX6_firstWord_1 : decode cX6_firstWord 1 = .ok (.istore_n 1, 1) := by decide +kernel
theorem dX6_firstWord_2 : decode cX6_firstWord 2 = .ok (.iload_n 1, 1) := by decide +kernel
theorem dX6_firstWord_3 : decode cX6_firstWord 3 = .ok (.bipush 8, 2) := by decide +kernel
theorem dX6_firstWord_5 : decode cX6_firstWord 5 = .ok (.if_icmp .ge 16, 3) := by decide +kernel
theorem dX6_firstWord_8 : decode cX6_firstWord 8 = .ok (.aload_n 0, 1) := by decide +kernel
theorem dX6_firstWord_9 : decode cX6_firstWord 9 = .ok (.getfield 61, 3) := by decide +kernel
theorem dX6_firstWord_12 : decode cX6_firstWord 12 = .ok (.iload_n 1, 1) := by decide +kernel
theorem dX6_firstWord_13 : decode cX6_firstWord 13 = .ok (.iconst 0, 1) := by decide +kernel
theorem dX6_firstWord_14 : decode cX6_firstWord 14 = .ok (.iastore, 1) := by decide +kernel
theorem dX6_firstWord_15 : decode cX6_firstWord 15 = .ok (.iinc 1 1, 3) := by decide +kernel
theorem dX6_firstWord_18 : decode cX6_firstWord 18 = .ok (.goto (-16), 3) := by decide +kernel
theorem dX6_firstWord_21 : decode cX6_firstWord 21 = .ok (.return_, 1) := by decide +kernel
theorem dX6_generates_0 : decode cX6_generates 0 = .ok (.aload_n 0, 1) := by decide +kernel
theorem dX6_generates_1 : decode cX6_generates 1 = .ok (.aload_n 0, 1) := by decide +kernel
theorem dX6_generates_2 : decode cX6_generates 2 = .ok (.getfield 15, 3) := by decide +kernel
theorem dX6_generates_5 : decode cX6_generates 5 = .ok (.bipush 8, 2) := by decide +kernel
theorem dX6_generates_7 : decode cX6_generates 7 = .ok (.iload_n 1, 1) := by decide +kernel
theorem dX6_generates_8 : decode cX6_generates 8 = .ok (.imul, 1) := by decide +kernel
theorem dX6_generates_9 : decode cX6_generates 9 = .ok (.aload_n 0, 1) := by decide +kernel
theorem dX6_generates_10 : decode cX6_generates 10 = .ok (.getfield 19, 3) := by decide +kernel
theorem dX6_generates_13 : decode cX6_generates 13 = .ok (.iload_n 1, 1) := by decide +kernel
theorem dX6_generates_14 : decode cX6_generates 14 = .ok (.iaload, 1) := by decide +kernel
theorem dX6_generates_15 : decode cX6_generates 15 = .ok (.aload_n 0, 1) := by decide +kernel
theorem dX6_generates_16 : decode cX6_generates 16 = .ok (.getfield 61, 3) := by decide +kernel
theorem dX6_generates_19 : decode cX6_generates 19 = .ok (.iconst 0, 1) := by decide +kernel
theorem dX6_generates_20 : decode cX6_generates 20 = .ok (.iload_n 3, 1) := by decide +kernel
theorem dX6_generates_21 : decode cX6_generates 21 = .ok (.iload_n 2, 1) := by decide +kernel
theorem dX6_generates_22 : decode cX6_generates 22 = .ok (.iconst 1, 1) := by decide +kernel
theorem dX6_generates_23 : decode cX6_generates 23 = .ok (.invokevirtual 217, 3) := by decide +kernel
theorem dX6_generates_26 : decode cX6_generates 26 = .ok (.iconst 1, 1) := by decide +kernel
theorem dX6_generates_27 : decode cX6_generates 27 = .ok (.if_icmp .ne 7, 3) := by decide +kernel
theorem dX6_generates_30 : decode cX6_generates 30 = .ok (.iconst 1, 1) := by decide +kernel
theorem dX6_generates_31 : decode cX6_generates 31 = .ok (.goto 4, 3) := by decide +kernel
theorem dX6_generates_34 : decode cX6_generates 34 = .ok (.iconst 0, 1) := by decide +kernel
theorem dX6_generates_35 : decode cX6_generates 35 = .ok (.ireturn, 1) := by decide +kernel
theorem dX6_countWords_0 : decode cX6_countWords 0 = .ok (.iload_n 1, 1) := by decide +kernel
theorem dX6_countWords_1 : decode cX6_countWords 1 = .ok (.invokestatic 139, 3) := by decide +kernel
theorem dX6_countWords_4 : decode cX6_countWords 4 = .ok (.ifCond .ne 6, 3) := by decide +kernel
theorem dX6_countWords_7 : decode cX6_countWords 7 = .ok (.bipush (-2), 2) := by decide +kernel
theorem dX6_countWords_9 : decode cX6_countWords 9 = .ok (.ireturn, 1) := by decide +kernel
theorem dX6_countWords_10 : decode cX6_countWords 10 = .ok (.iload_n 2, 1) := by decide +kernel
theorem dX6_countWords_11 : decode cX6_countWords 11 = .ok (.invokestatic 221, 3) := by decide +kernel
theorem dX6_countWords_14 : decode cX6_countWords 14 = .ok (.ifCond .eq 13, 3) := by decide +kernel
theorem dX6_countWords_17 : decode cX6_countWords 17 = .ok (.iload_n 3, 1) := by decide +kernel
theorem dX6_countWords_18 : decode cX6_countWords 18 = .ok (.iconst 0, 1) := by decide +kernel
theorem dX6_countWords_19 : decode cX6_countWords 19 = .ok (.bipush 6, 2) := by decide +kernel
theorem dX6_countWords_21 : decode cX6_countWords 21 = .ok (.invokestatic 101, 3) := by decide +kernel
theorem dX6_countWords_24 : decode cX6_countWords 24 = .ok (.ifCond .ne 5, 3) := by decide +kernel
theorem dX6_countWords_27 : decode cX6_countWords 27 = .ok (.iconst (-1), 1) := by decide +kernel
theorem dX6_countWords_28 : decode cX6_countWords 28 = .ok (.ireturn, 1) := by decide +kernel
theorem dX6_countWords_29 : decode cX6_countWords 29 = .ok (.aload_n 0, 1) := by decide +kernel
theorem dX6_countWords_30 : decode cX6_countWords 30 = .ok (.invokevirtual 264, 3) := by decide +kernel
theorem dX6_countWords_33 : decode cX6_countWords 33 = .ok (.iconst 0, 1) := by decide +kernel
theorem dX6_countWords_34 : decode cX6_countWords 34 = .ok (.istore 4, 2) := by decide +kernel
theorem dX6_countWords_36 : decode cX6_countWords 36 = .ok (.iconst 1, 1) := by decide +kernel
theorem dX6_countWords_37 : decode cX6_countWords 37 = .ok (.istore 5, 2) := by decide +kernel
theorem dX6_countWords_39 : decode cX6_countWords 39 = .ok (.iload 5, 2) := by decide +kernel
theorem dX6_countWords_41 : decode cX6_countWords 41 = .ok (.ifCond .eq 33, 3) := by decide +kernel
theorem dX6_countWords_44 : decode cX6_countWords 44 = .ok (.iload 4, 2) := by decide +kernel
theorem dX6_countWords_46 : decode cX6_countWords 46 = .ok (.aload_n 0, 1) := by decide +kernel
theorem dX6_countWords_47 : decode cX6_countWords 47 = .ok (.iload_n 1, 1) := by decide +kernel
theorem dX6_countWords_48 : decode cX6_countWords 48 = .ok (.iload_n 2, 1) := by decide +kernel
theorem dX6_countWords_49 : decode cX6_countWords 49 = .ok (.iload_n 3, 1) := by decide +kernel
theorem dX6_countWords_50 : decode cX6_countWords 50 = .ok (.invokevirtual 267, 3) := by decide +kernel
theorem dX6_countWords_53 : decode cX6_countWords 53 = .ok (.ifCond .eq 7, 3) := by decide +kernel
theorem dX6_countWords_56 : decode cX6_countWords 56 = .ok (.iconst 1, 1) := by decide +kernel
theorem dX6_countWords_57 : decode cX6_countWords 57 = .ok (.goto 4, 3) := by decide +kernel
theorem dX6_countWords_60 : decode cX6_countWords 60 = .ok (.iconst 0, 1) := by decide +kernel
theorem dX6_countWords_61 : decode cX6_countWords 61 = .ok (.iadd, 1) := by decide +kernel
theorem dX6_countWords_62 : decode cX6_countWords 62 = .ok (.istore 4, 2) := by decide +kernel
theorem dX6_countWords_64 : decode cX6_countWords 64 = .ok (.aload_n 0, 1) := by decide +kernel
theorem dX6_countWords_65 : decode cX6_countWords 65 = .ok (.iload_n 3, 1) := by decide +kernel
theorem dX6_countWords_66 : decode cX6_countWords 66 = .ok (.invokevirtual 270, 3) := by decide +kernel
theorem dX6_countWords_69 : decode cX6_countWords 69 = .ok (.istore 5, 2) := by decide +kernel
theorem dX6_countWords_71 : decode cX6_countWords 71 = .ok (.goto (-32), 3) := by decide +kernel
theorem dX6_countWords_74 : decode cX6_countWords 74 = .ok (.iload 4, 2) := by decide +kernel
theorem dX6_countWords_76 : decode cX6_countWords 76 = .ok (.ireturn, 1) := by decide +kernel
theorem dX6_difference_0 : decode cX6_difference 0 = .ok (.iload_n 1, 1) := by decide +kernel
theorem dX6_difference_1 : decode cX6_difference 1 = .ok (.invokestatic 139, 3) := by decide +kernel
theorem dX6_difference_4 : decode cX6_difference 4 = .ok (.ifCond .eq 28, 3) := by decide +kernel
theorem dX6_difference_7 : decode cX6_difference 7 = .ok (.iload_n 2, 1) := by decide +kernel
theorem dX6_difference_8 : decode cX6_difference 8 = .ok (.invokestatic 139, 3) := by decide +kernel
theorem dX6_difference_11 : decode cX6_difference 11 = .ok (.ifCond .eq 21, 3) := by decide +kernel
theorem dX6_difference_14 : decode cX6_difference 14 = .ok (.iload_n 3, 1) := by decide +kernel
theorem dX6_difference_15 : decode cX6_difference 15 = .ok (.invokestatic 221, 3) := by decide +kernel
theorem dX6_difference_18 : decode cX6_difference 18 = .ok (.ifCond .eq 14, 3) := by decide +kernel
theorem dX6_difference_21 : decode cX6_difference 21 = .ok (.iload 4, 2) := by decide +kernel
theorem dX6_difference_23 : decode cX6_difference 23 = .ok (.iconst 0, 1) := by decide +kernel
theorem dX6_difference_24 : decode cX6_difference 24 = .ok (.bipush 6, 2) := by decide +kernel
theorem dX6_difference_26 : decode cX6_difference 26 = .ok (.invokestatic 101, 3) := by decide +kernel
theorem dX6_difference_29 : decode cX6_difference 29 = .ok (.ifCond .ne 7, 3) := by decide +kernel
theorem dX6_difference_32 : decode cX6_difference 32 = .ok (.ldc2_w 244, 3) := by decide +kernel
theorem dX6_difference_35 : decode cX6_difference 35 = .ok (.lreturn, 1) := by decide +kernel
theorem dX6_difference_36 : decode cX6_difference 36 = .ok (.iconst 0, 1) := by decide +kernel
theorem dX6_difference_37 : decode cX6_difference 37 = .ok (.istore 5, 2) := by decide +kernel
theorem dX6_difference_39 : decode cX6_difference 39 = .ok (.iload 5, 2) := by decide +kernel
theorem dX6_difference_41 : decode cX6_difference 41 = .ok (.iload 4, 2) := by decide +kernel
theorem dX6_difference_43 : decode cX6_difference 43 = .ok (.if_icmp .gt 65, 3) := by decide +kernel
theorem dX6_difference_46 : decode cX6_difference 46 = .ok (.aload_n 0, 1) := by decide +kernel
theorem dX6_difference_47 : decode cX6_difference 47 = .ok (.invokevirtual 264, 3) := by decide +kernel
theorem dX6_difference_50 : decode cX6_difference 50 = .ok (.iconst 1, 1) := by decide +kernel
theorem dX6_difference_51 : decode cX6_difference 51 = .ok (.istore 6, 2) := by decide +kernel
theorem dX6_difference_53 : decode cX6_difference 53 = .ok (.iload 6, 2) := by decide +kernel
theorem dX6_difference_55 : decode cX6_difference 55 = .ok (.ifCond .eq 47, 3) := by decide +kernel
theorem dX6_difference_58 : decode cX6_difference 58 = .ok (.aload_n 0, 1) := by decide +kernel
theorem dX6_difference_59 : decode cX6_difference 59 = .ok (.iload_n 1, 1) := by decide +kernel
theorem dX6_difference_60 : decode cX6_difference 60 = .ok (.iload_n 3, 1) := by decide +kernel
theorem dX6_difference_61 : decode cX6_difference 61 = .ok (.iload 5, 2) := by decide +kernel
theorem dX6_difference_63 : decode cX6_difference 63 = .ok (.invokevirtual 267, 3) := by decide +kernel
theorem dX6_difference_66 : decode cX6_difference 66 = .ok (.ifCond .eq 25, 3) := by decide +kernel
theorem dX6_difference_69 : decode cX6_difference 69 = .ok (.aload_n 0, 1) := by decide +kernel
theorem dX6_difference_70 : decode cX6_difference 70 = .ok (.iload_n 2, 1) := by decide +kernel
theorem dX6_difference_71 : decode cX6_difference 71 = .ok (.iload_n 3, 1) := by decide +kernel
theorem dX6_difference_72 : decode cX6_difference 72 = .ok (.iload 5, 2) := by decide +kernel
theorem dX6_difference_74 : decode cX6_difference 74 = .ok (.invokevirtual 267, 3) := by decide +kernel
theorem dX6_difference_77 : decode cX6_difference 77 = .ok (.ifCond .ne 14, 3) := by decide +kernel
theorem dX6_difference_80 : decode cX6_difference 80 = .ok (.aload_n 0, 1) := by decide +kernel
theorem dX6_difference_81 : decode cX6_difference 81 = .ok (.getfield 61, 3) := by decide +kernel
theorem dX6_difference_84 : decode cX6_difference 84 = .ok (.iconst 0, 1) := by decide +kernel
theorem dX6_difference_85 : decode cX6_difference 85 = .ok (.iload 5, 2) := by decide +kernel
theorem dX6_difference_87 : decode cX6_difference 87 = .ok (.invokestatic 241, 3) := by decide +kernel
theorem dX6_difference_90 : decode cX6_difference 90 = .ok (.lreturn, 1) := by decide +kernel
theorem dX6_difference_91 : decode cX6_difference 91 = .ok (.aload_n 0, 1) := by decide +kernel
theorem dX6_difference_92 : decode cX6_difference 92 = .ok (.iload 5, 2) := by decide +kernel
theorem dX6_difference_94 : decode cX6_difference 94 = .ok (.invokevirtual 270, 3) := by decide +kernel
theorem dX6_difference_97 : decode cX6_difference 97 = .ok (.istore 6, 2) := by decide +kernel
theorem dX6_difference_99 : decode cX6_difference 99 = .ok (.goto (-46), 3) := by decide +kernel
theorem dX6_difference_102 : decode cX6_difference 102 = .ok (.iinc 5 1, 3) := by decide +kernel
theorem dX6_difference_105 : decode cX6_difference 105 = .ok (.goto (-66), 3) := by decide +kernel
theorem dX6_difference_108 : decode cX6_difference 108 = .ok (.ldc2_w 244, 3) := by decide +kernel
theorem dX6_difference_111 : decode cX6_difference 111 = .ok (.lreturn, 1) := by decide +kernel
theorem dX6_isSlot_0 : decode cX6_isSlot 0 = .ok (.iload_n 0, 1) := by decide +kernel
theorem dX6_isSlot_1 : decode cX6_isSlot 1 = .ok (.iconst 0, 1) := by decide +kernel
theorem dX6_isSlot_2 : decode cX6_isSlot 2 = .ok (.iconst 3, 1) := by decide +kernel
theorem dX6_isSlot_3 : decode cX6_isSlot 3 = .ok (.invokestatic 101, 3) := by decide +kernel
theorem dX6_isSlot_6 : decode cX6_isSlot 6 = .ok (.ireturn, 1) := by decide +kernel
theorem dX6_allocate_0 : decode cX6_allocate 0 = .ok (.iload_n 1, 1) := by decide +kernel
theorem dX6_allocate_1 : decode cX6_allocate 1 = .ok (.invokestatic 273, 3) := by decide +kernel
theorem dX6_allocate_4 : decode cX6_allocate 4 = .ok (.ifCond .eq 18, 3) := by decide +kernel
theorem dX6_allocate_7 : decode cX6_allocate 7 = .ok (.iload_n 2, 1) := by decide +kernel
theorem dX6_allocate_8 : decode cX6_allocate 8 = .ok (.iconst 0, 1) := by decide +kernel
theorem dX6_allocate_9 : decode cX6_allocate 9 = .ok (.iconst 3, 1) := by decide +kernel
theorem dX6_allocate_10 : decode cX6_allocate 10 = .ok (.invokestatic 101, 3) := by decide +kernel
theorem dX6_allocate_13 : decode cX6_allocate 13 = .ok (.ifCond .eq 9, 3) := by decide +kernel
theorem dX6_allocate_16 : decode cX6_allocate 16 = .ok (.iload_n 3, 1) := by decide +kernel
theorem dX6_allocate_17 : decode cX6_allocate 17 = .ok (.bipush 40, 2) := by decide +kernel
theorem dX6_allocate_19 : decode cX6_allocate 19 = .ok (.if_icmp .le 5, 3) := by decide +kernel
theorem dX6_allocate_22 : decode cX6_allocate 22 = .ok (.iconst (-1), 1) := by decide +kernel
theorem dX6_allocate_23 : decode cX6_allocate 23 = .ok (.ireturn, 1) := by decide +kernel
theorem dX6_allocate_24 : decode cX6_allocate 24 = .ok (.iload_n 3, 1) := by decide +kernel
theorem dX6_allocate_25 : decode cX6_allocate 25 = .ok (.ifCond .ge 6, 3) := by decide +kernel
theorem dX6_allocate_28 : decode cX6_allocate 28 = .ok (.bipush (-14), 2) := by decide +kernel
theorem dX6_allocate_30 : decode cX6_allocate 30 = .ok (.ireturn, 1) := by decide +kernel
theorem dX6_allocate_31 : decode cX6_allocate 31 = .ok (.aload_n 0, 1) := by decide +kernel
theorem dX6_allocate_32 : decode cX6_allocate 32 = .ok (.getfield 64, 3) := by decide +kernel
theorem dX6_allocate_35 : decode cX6_allocate 35 = .ok (.iload_n 1, 1) := by decide +kernel
theorem dX6_allocate_36 : decode cX6_allocate 36 = .ok (.iload_n 2, 1) := by decide +kernel
theorem dX6_allocate_37 : decode cX6_allocate 37 = .ok (.iastore, 1) := by decide +kernel
theorem dX6_allocate_38 : decode cX6_allocate 38 = .ok (.aload_n 0, 1) := by decide +kernel
theorem dX6_allocate_39 : decode cX6_allocate 39 = .ok (.getfield 67, 3) := by decide +kernel
theorem dX6_allocate_42 : decode cX6_allocate 42 = .ok (.iload_n 1, 1) := by decide +kernel
theorem dX6_allocate_43 : decode cX6_allocate 43 = .ok (.iload_n 3, 1) := by decide +kernel
theorem dX6_allocate_44 : decode cX6_allocate 44 = .ok (.iastore, 1) := by decide +kernel
theorem dX6_allocate_45 : decode cX6_allocate 45 = .ok (.iconst 0, 1) := by decide +kernel
theorem dX6_allocate_46 : decode cX6_allocate 46 = .ok (.istore 4, 2) := by decide +kernel
theorem dX6_allocate_48 : decode cX6_allocate 48 = .ok (.iload 4, 2) := by decide +kernel
theorem dX6_allocate_50 : decode cX6_allocate 50 = .ok (.bipush 40, 2) := by decide +kernel
theorem dX6_allocate_52 : decode cX6_allocate 52 = .ok (.if_icmp .ge 22, 3) := by decide +kernel
theorem dX6_allocate_55 : decode cX6_allocate 55 = .ok (.aload_n 0, 1) := by decide +kernel
theorem dX6_allocate_56 : decode cX6_allocate 56 = .ok (.getfield 70, 3) := by decide +kernel
theorem dX6_allocate_59 : decode cX6_allocate 59 = .ok (.bipush 40, 2) := by decide +kernel
theorem dX6_allocate_61 : decode cX6_allocate 61 = .ok (.iload_n 1, 1) := by decide +kernel
theorem dX6_allocate_62 : decode cX6_allocate 62 = .ok (.imul, 1) := by decide +kernel
theorem dX6_allocate_63 : decode cX6_allocate 63 = .ok (.iload 4, 2) := by decide +kernel
theorem dX6_allocate_65 : decode cX6_allocate 65 = .ok (.iadd, 1) := by decide +kernel
theorem dX6_allocate_66 : decode cX6_allocate 66 = .ok (.lconst 0, 1) := by decide +kernel
theorem dX6_allocate_67 : decode cX6_allocate 67 = .ok (.lastore, 1) := by decide +kernel
theorem dX6_allocate_68 : decode cX6_allocate 68 = .ok (.iinc 4 1, 3) := by decide +kernel
theorem dX6_allocate_71 : decode cX6_allocate 71 = .ok (.goto (-23), 3) := by decide +kernel
theorem dX6_allocate_74 : decode cX6_allocate 74 = .ok (.iload_n 3, 1) := by decide +kernel
theorem dX6_allocate_75 : decode cX6_allocate 75 = .ok (.ireturn, 1) := by decide +kernel
theorem dX6_release_0 : decode cX6_release 0 = .ok (.iload_n 1, 1) := by decide +kernel
theorem dX6_release_1 : decode cX6_release 1 = .ok (.invokestatic 273, 3) := by decide +kernel
theorem dX6_release_4 : decode cX6_release 4 = .ok (.ifCond .ne 5, 3) := by decide +kernel
theorem dX6_release_7 : decode cX6_release 7 = .ok (.iconst (-1), 1) := by decide +kernel
theorem dX6_release_8 : decode cX6_release 8 = .ok (.ireturn, 1) := by decide +kernel
theorem dX6_release_9 : decode cX6_release 9 = .ok (.aload_n 0, 1) := by decide +kernel
theorem dX6_release_10 : decode cX6_release 10 = .ok (.getfield 64, 3) := by decide +kernel
theorem dX6_release_13 : decode cX6_release 13 = .ok (.iload_n 1, 1) := by decide +kernel
theorem dX6_release_14 : decode cX6_release 14 = .ok (.iaload, 1) := by decide +kernel
theorem dX6_release_15 : decode cX6_release 15 = .ok (.ifCond .ge 7, 3) := by decide +kernel
theorem dX6_release_18 : decode cX6_release 18 = .ok (.iconst 0, 1) := by decide +kernel
theorem dX6_release_19 : decode cX6_release 19 = .ok (.goto 4, 3) := by decide +kernel
theorem dX6_release_22 : decode cX6_release 22 = .ok (.iconst 1, 1) := by decide +kernel
theorem dX6_release_23 : decode cX6_release 23 = .ok (.istore_n 2, 1) := by decide +kernel
theorem dX6_release_24 : decode cX6_release 24 = .ok (.aload_n 0, 1) := by decide +kernel
theorem dX6_release_25 : decode cX6_release 25 = .ok (.getfield 64, 3) := by decide +kernel
theorem dX6_release_28 : decode cX6_release 28 = .ok (.iload_n 1, 1) := by decide +kernel
theorem dX6_release_29 : decode cX6_release 29 = .ok (.iconst (-1), 1) := by decide +kernel
theorem dX6_release_30 : decode cX6_release 30 = .ok (.iastore, 1) := by decide +kernel
theorem dX6_release_31 : decode cX6_release 31 = .ok (.iload_n 2, 1) := by decide +kernel
theorem dX6_release_32 : decode cX6_release 32 = .ok (.ireturn, 1) := by decide +kernel
theorem dX6_narrowed_0 : decode cX6_narrowed 0 = .ok (.iload_n 0, 1) := by decide +kernel
theorem dX6_narrowed_1 : decode cX6_narrowed 1 = .ok (.tableswitch 41 0 2 #[27, 32, 37], 27) := by decide +kernel
theorem dX6_narrowed_28 : decode cX6_narrowed 28 = .ok (.lload_n 1, 1) := by decide +kernel
theorem dX6_narrowed_29 : decode cX6_narrowed 29 = .ok (.l2i, 1) := by decide +kernel
theorem dX6_narrowed_30 : decode cX6_narrowed 30 = .ok (.i2b, 1) := by decide +kernel
theorem dX6_narrowed_31 : decode cX6_narrowed 31 = .ok (.i2l, 1) := by decide +kernel
theorem dX6_narrowed_32 : decode cX6_narrowed 32 = .ok (.lreturn, 1) := by decide +kernel
theorem dX6_narrowed_33 : decode cX6_narrowed 33 = .ok (.lload_n 1, 1) := by decide +kernel
theorem dX6_narrowed_34 : decode cX6_narrowed 34 = .ok (.l2i, 1) := by decide +kernel
theorem dX6_narrowed_35 : decode cX6_narrowed 35 = .ok (.i2c, 1) := by decide +kernel
theorem dX6_narrowed_36 : decode cX6_narrowed 36 = .ok (.i2l, 1) := by decide +kernel
theorem dX6_narrowed_37 : decode cX6_narrowed 37 = .ok (.lreturn, 1) := by decide +kernel
theorem dX6_narrowed_38 : decode cX6_narrowed 38 = .ok (.lload_n 1, 1) := by decide +kernel
theorem dX6_narrowed_39 : decode cX6_narrowed 39 = .ok (.l2i, 1) := by decide +kernel
theorem dX6_narrowed_40 : decode cX6_narrowed 40 = .ok (.i2l, 1) := by decide +kernel
theorem dX6_narrowed_41 : decode cX6_narrowed 41 = .ok (.lreturn, 1) := by decide +kernel
theorem dX6_narrowed_42 : decode cX6_narrowed 42 = .ok (.lload_n 1, 1) := by decide +kernel
theorem dX6_narrowed_43 : decode cX6_narrowed 43 = .ok (.lconst 0, 1) := by decide +kernel
theorem dX6_narrowed_44 : decode cX6_narrowed 44 = .ok (.lcmp, 1) := by decide +kernel
theorem dX6_narrowed_45 : decode cX6_narrowed 45 = .ok (.ifCond .eq 7, 3) := by decide +kernel
theorem dX6_narrowed_48 : decode cX6_narrowed 48 = .ok (.lconst 1, 1) := by decide +kernel
theorem dX6_narrowed_49 : decode cX6_narrowed 49 = .ok (.goto 4, 3) := by decide +kernel
theorem dX6_narrowed_52 : decode cX6_narrowed 52 = .ok (.lconst 0, 1) := by decide +kernel
theorem dX6_narrowed_53 : decode cX6_narrowed 53 = .ok (.lreturn, 1) := by decide +kernel
theorem dX6_putElement_0 : decode cX6_putElement 0 = .ok (.iload_n 1, 1) := by decide +kernel
theorem dX6_putElement_1 : decode cX6_putElement 1 = .ok (.invokestatic 273, 3) := by decide +kernel
theorem dX6_putElement_4 : decode cX6_putElement 4 = .ok (.ifCond .ne 5, 3) := by decide +kernel
theorem dX6_putElement_7 : decode cX6_putElement 7 = .ok (.iconst (-1), 1) := by decide +kernel
theorem dX6_putElement_8 : decode cX6_putElement 8 = .ok (.ireturn, 1) := by decide +kernel
theorem dX6_putElement_9 : decode cX6_putElement 9 = .ok (.aload_n 0, 1) := by decide +kernel
theorem dX6_putElement_10 : decode cX6_putElement 10 = .ok (.getfield 64, 3) := by decide +kernel
theorem dX6_putElement_13 : decode cX6_putElement 13 = .ok (.iload_n 1, 1) := by decide +kernel
theorem dX6_putElement_14 : decode cX6_putElement 14 = .ok (.iaload, 1) := by decide +kernel
theorem dX6_putElement_15 : decode cX6_putElement 15 = .ok (.ifCond .ge 6, 3) := by decide +kernel
theorem dX6_putElement_18 : decode cX6_putElement 18 = .ok (.bipush (-11), 2) := by decide +kernel
theorem dX6_putElement_20 : decode cX6_putElement 20 = .ok (.ireturn, 1) := by decide +kernel
theorem dX6_putElement_21 : decode cX6_putElement 21 = .ok (.iload_n 2, 1) := by decide +kernel
theorem dX6_putElement_22 : decode cX6_putElement 22 = .ok (.iconst 0, 1) := by decide +kernel
theorem dX6_putElement_23 : decode cX6_putElement 23 = .ok (.aload_n 0, 1) := by decide +kernel
theorem dX6_putElement_24 : decode cX6_putElement 24 = .ok (.getfield 67, 3) := by decide +kernel
theorem dX6_putElement_27 : decode cX6_putElement 27 = .ok (.iload_n 1, 1) := by decide +kernel
theorem dX6_putElement_28 : decode cX6_putElement 28 = .ok (.iaload, 1) := by decide +kernel
theorem dX6_putElement_29 : decode cX6_putElement 29 = .ok (.iconst 1, 1) := by decide +kernel
theorem dX6_putElement_30 : decode cX6_putElement 30 = .ok (.isub, 1) := by decide +kernel
theorem dX6_putElement_31 : decode cX6_putElement 31 = .ok (.invokestatic 101, 3) := by decide +kernel
theorem dX6_putElement_34 : decode cX6_putElement 34 = .ok (.ifCond .ne 6, 3) := by decide +kernel
theorem dX6_putElement_37 : decode cX6_putElement 37 = .ok (.bipush (-13), 2) := by decide +kernel
theorem dX6_putElement_39 : decode cX6_putElement 39 = .ok (.ireturn, 1) := by decide +kernel
theorem dX6_putElement_40 : decode cX6_putElement 40 = .ok (.aload_n 0, 1) := by decide +kernel
theorem dX6_putElement_41 : decode cX6_putElement 41 = .ok (.getfield 70, 3) := by decide +kernel
theorem dX6_putElement_44 : decode cX6_putElement 44 = .ok (.bipush 40, 2) := by decide +kernel
theorem dX6_putElement_46 : decode cX6_putElement 46 = .ok (.iload_n 1, 1) := by decide +kernel
theorem dX6_putElement_47 : decode cX6_putElement 47 = .ok (.imul, 1) := by decide +kernel
theorem dX6_putElement_48 : decode cX6_putElement 48 = .ok (.iload_n 2, 1) := by decide +kernel
theorem dX6_putElement_49 : decode cX6_putElement 49 = .ok (.iadd, 1) := by decide +kernel
theorem dX6_putElement_50 : decode cX6_putElement 50 = .ok (.aload_n 0, 1) := by decide +kernel
theorem dX6_putElement_51 : decode cX6_putElement 51 = .ok (.getfield 64, 3) := by decide +kernel
theorem dX6_putElement_54 : decode cX6_putElement 54 = .ok (.iload_n 1, 1) := by decide +kernel
theorem dX6_putElement_55 : decode cX6_putElement 55 = .ok (.iaload, 1) := by decide +kernel
theorem dX6_putElement_56 : decode cX6_putElement 56 = .ok (.lload_n 3, 1) := by decide +kernel
theorem dX6_putElement_57 : decode cX6_putElement 57 = .ok (.invokestatic 276, 3) := by decide +kernel
theorem dX6_putElement_60 : decode cX6_putElement 60 = .ok (.lastore, 1) := by decide +kernel
theorem dX6_putElement_61 : decode cX6_putElement 61 = .ok (.iconst 1, 1) := by decide +kernel
theorem dX6_putElement_62 : decode cX6_putElement 62 = .ok (.ireturn, 1) := by decide +kernel
theorem dX6_element_0 : decode cX6_element 0 = .ok (.iload_n 1, 1) := by decide +kernel
theorem dX6_element_1 : decode cX6_element 1 = .ok (.invokestatic 273, 3) := by decide +kernel
theorem dX6_element_4 : decode cX6_element 4 = .ok (.ifCond .eq 28, 3) := by decide +kernel
theorem dX6_element_7 : decode cX6_element 7 = .ok (.aload_n 0, 1) := by decide +kernel
theorem dX6_element_8 : decode cX6_element 8 = .ok (.getfield 64, 3) := by decide +kernel
theorem dX6_element_11 : decode cX6_element 11 = .ok (.iload_n 1, 1) := by decide +kernel
theorem dX6_element_12 : decode cX6_element 12 = .ok (.iaload, 1) := by decide +kernel
theorem dX6_element_13 : decode cX6_element 13 = .ok (.ifCond .lt 19, 3) := by decide +kernel
theorem dX6_element_16 : decode cX6_element 16 = .ok (.iload_n 2, 1) := by decide +kernel
theorem dX6_element_17 : decode cX6_element 17 = .ok (.iconst 0, 1) := by decide +kernel
theorem dX6_element_18 : decode cX6_element 18 = .ok (.aload_n 0, 1) := by decide +kernel
theorem dX6_element_19 : decode cX6_element 19 = .ok (.getfield 67, 3) := by decide +kernel
theorem dX6_element_22 : decode cX6_element 22 = .ok (.iload_n 1, 1) := by decide +kernel
theorem dX6_element_23 : decode cX6_element 23 = .ok (.iaload, 1) := by decide +kernel
theorem dX6_element_24 : decode cX6_element 24 = .ok (.iconst 1, 1) := by decide +kernel
theorem dX6_element_25 : decode cX6_element 25 = .ok (.isub, 1) := by decide +kernel
theorem dX6_element_26 : decode cX6_element 26 = .ok (.invokestatic 101, 3) := by decide +kernel
theorem dX6_element_29 : decode cX6_element 29 = .ok (.ifCond .ne 7, 3) := by decide +kernel
theorem dX6_element_32 : decode cX6_element 32 = .ok (.ldc2_w 244, 3) := by decide +kernel
theorem dX6_element_35 : decode cX6_element 35 = .ok (.lreturn, 1) := by decide +kernel
theorem dX6_element_36 : decode cX6_element 36 = .ok (.aload_n 0, 1) := by decide +kernel
theorem dX6_element_37 : decode cX6_element 37 = .ok (.getfield 70, 3) := by decide +kernel
theorem dX6_element_40 : decode cX6_element 40 = .ok (.bipush 40, 2) := by decide +kernel
theorem dX6_element_42 : decode cX6_element 42 = .ok (.iload_n 1, 1) := by decide +kernel
theorem dX6_element_43 : decode cX6_element 43 = .ok (.imul, 1) := by decide +kernel
theorem dX6_element_44 : decode cX6_element 44 = .ok (.iload_n 2, 1) := by decide +kernel
theorem dX6_element_45 : decode cX6_element 45 = .ok (.iadd, 1) := by decide +kernel
theorem dX6_element_46 : decode cX6_element 46 = .ok (.laload, 1) := by decide +kernel
theorem dX6_element_47 : decode cX6_element 47 = .ok (.lreturn, 1) := by decide +kernel
theorem dX6_copyElements_0 : decode cX6_copyElements 0 = .ok (.iload_n 1, 1) := by decide +kernel
theorem dX6_copyElements_1 : decode cX6_copyElements 1 = .ok (.invokestatic 273, 3) := by decide +kernel
theorem dX6_copyElements_4 : decode cX6_copyElements 4 = .ok (.ifCond .eq 10, 3) := by decide +kernel
theorem dX6_copyElements_7 : decode cX6_copyElements 7 = .ok (.iload_n 3, 1) := by decide +kernel
theorem dX6_copyElements_8 : decode cX6_copyElements 8 = .ok (.invokestatic 273, 3) := by decide +kernel
theorem dX6_copyElements_11 : decode cX6_copyElements 11 = .ok (.ifCond .ne 5, 3) := by decide +kernel
theorem dX6_copyElements_14 : decode cX6_copyElements 14 = .ok (.iconst (-1), 1) := by decide +kernel
theorem dX6_copyElements_15 : decode cX6_copyElements 15 = .ok (.ireturn, 1) := by decide +kernel
theorem dX6_copyElements_16 : decode cX6_copyElements 16 = .ok (.aload_n 0, 1) := by decide +kernel
theorem dX6_copyElements_17 : decode cX6_copyElements 17 = .ok (.getfield 64, 3) := by decide +kernel
theorem dX6_copyElements_20 : decode cX6_copyElements 20 = .ok (.iload_n 1, 1) := by decide +kernel
theorem dX6_copyElements_21 : decode cX6_copyElements 21 = .ok (.iaload, 1) := by decide +kernel
theorem dX6_copyElements_22 : decode cX6_copyElements 22 = .ok (.ifCond .lt 12, 3) := by decide +kernel
theorem dX6_copyElements_25 : decode cX6_copyElements 25 = .ok (.aload_n 0, 1) := by decide +kernel
theorem dX6_copyElements_26 : decode cX6_copyElements 26 = .ok (.getfield 64, 3) := by decide +kernel
theorem dX6_copyElements_29 : decode cX6_copyElements 29 = .ok (.iload_n 3, 1) := by decide +kernel
theorem dX6_copyElements_30 : decode cX6_copyElements 30 = .ok (.iaload, 1) := by decide +kernel
theorem dX6_copyElements_31 : decode cX6_copyElements 31 = .ok (.ifCond .ge 6, 3) := by decide +kernel
theorem dX6_copyElements_34 : decode cX6_copyElements 34 = .ok (.bipush (-11), 2) := by decide +kernel
theorem dX6_copyElements_36 : decode cX6_copyElements 36 = .ok (.ireturn, 1) := by decide +kernel
theorem dX6_copyElements_37 : decode cX6_copyElements 37 = .ok (.aload_n 0, 1) := by decide +kernel
theorem dX6_copyElements_38 : decode cX6_copyElements 38 = .ok (.getfield 64, 3) := by decide +kernel
theorem dX6_copyElements_41 : decode cX6_copyElements 41 = .ok (.iload_n 1, 1) := by decide +kernel
theorem dX6_copyElements_42 : decode cX6_copyElements 42 = .ok (.iaload, 1) := by decide +kernel
theorem dX6_copyElements_43 : decode cX6_copyElements 43 = .ok (.aload_n 0, 1) := by decide +kernel
theorem dX6_copyElements_44 : decode cX6_copyElements 44 = .ok (.getfield 64, 3) := by decide +kernel
theorem dX6_copyElements_47 : decode cX6_copyElements 47 = .ok (.iload_n 3, 1) := by decide +kernel
theorem dX6_copyElements_48 : decode cX6_copyElements 48 = .ok (.iaload, 1) := by decide +kernel
theorem dX6_copyElements_49 : decode cX6_copyElements 49 = .ok (.if_icmp .eq 6, 3) := by decide +kernel
theorem dX6_copyElements_52 : decode cX6_copyElements 52 = .ok (.bipush (-12), 2) := by decide +kernel
theorem dX6_copyElements_54 : decode cX6_copyElements 54 = .ok (.ireturn, 1) := by decide +kernel
theorem dX6_copyElements_55 : decode cX6_copyElements 55 = .ok (.iload_n 2, 1) := by decide +kernel
theorem dX6_copyElements_56 : decode cX6_copyElements 56 = .ok (.ifCond .lt 40, 3) := by decide +kernel
theorem dX6_copyElements_59 : decode cX6_copyElements 59 = .ok (.iload 4, 2) := by decide +kernel
theorem dX6_copyElements_61 : decode cX6_copyElements 61 = .ok (.ifCond .lt 35, 3) := by decide +kernel
theorem dX6_copyElements_64 : decode cX6_copyElements 64 = .ok (.iload 5, 2) := by decide +kernel
theorem dX6_copyElements_66 : decode cX6_copyElements 66 = .ok (.ifCond .lt 30, 3) := by decide +kernel
theorem dX6_copyElements_69 : decode cX6_copyElements 69 = .ok (.iload_n 2, 1) := by decide +kernel
theorem dX6_copyElements_70 : decode cX6_copyElements 70 = .ok (.aload_n 0, 1) := by decide +kernel
theorem dX6_copyElements_71 : decode cX6_copyElements 71 = .ok (.getfield 67, 3) := by decide +kernel
theorem dX6_copyElements_74 : decode cX6_copyElements 74 = .ok (.iload_n 1, 1) := by decide +kernel
theorem dX6_copyElements_75 : decode cX6_copyElements 75 = .ok (.iaload, 1) := by decide +kernel
theorem dX6_copyElements_76 : decode cX6_copyElements 76 = .ok (.iload 5, 2) := by decide +kernel
theorem dX6_copyElements_78 : decode cX6_copyElements 78 = .ok (.isub, 1) := by decide +kernel
theorem dX6_copyElements_79 : decode cX6_copyElements 79 = .ok (.if_icmp .gt 17, 3) := by decide +kernel
theorem dX6_copyElements_82 : decode cX6_copyElements 82 = .ok (.iload 4, 2) := by decide +kernel
theorem dX6_copyElements_84 : decode cX6_copyElements 84 = .ok (.aload_n 0, 1) := by decide +kernel
theorem dX6_copyElements_85 : decode cX6_copyElements 85 = .ok (.getfield 67, 3) := by decide +kernel
theorem dX6_copyElements_88 : decode cX6_copyElements 88 = .ok (.iload_n 3, 1) := by decide +kernel
theorem dX6_copyElements_89 : decode cX6_copyElements 89 = .ok (.iaload, 1) := by decide +kernel
theorem dX6_copyElements_90 : decode cX6_copyElements 90 = .ok (.iload 5, 2) := by decide +kernel
theorem dX6_copyElements_92 : decode cX6_copyElements 92 = .ok (.isub, 1) := by decide +kernel
theorem dX6_copyElements_93 : decode cX6_copyElements 93 = .ok (.if_icmp .le 6, 3) := by decide +kernel
theorem dX6_copyElements_96 : decode cX6_copyElements 96 = .ok (.bipush (-13), 2) := by decide +kernel
theorem dX6_copyElements_98 : decode cX6_copyElements 98 = .ok (.ireturn, 1) := by decide +kernel
theorem dX6_copyElements_99 : decode cX6_copyElements 99 = .ok (.iconst 0, 1) := by decide +kernel
theorem dX6_copyElements_100 : decode cX6_copyElements 100 = .ok (.istore 6, 2) := by decide +kernel
theorem dX6_copyElements_102 : decode cX6_copyElements 102 = .ok (.iload 6, 2) := by decide +kernel
theorem dX6_copyElements_104 : decode cX6_copyElements 104 = .ok (.iload 5, 2) := by decide +kernel
theorem dX6_copyElements_106 : decode cX6_copyElements 106 = .ok (.if_icmp .ge 30, 3) := by decide +kernel
theorem dX6_copyElements_109 : decode cX6_copyElements 109 = .ok (.aload_n 0, 1) := by decide +kernel
theorem dX6_copyElements_110 : decode cX6_copyElements 110 = .ok (.getfield 74, 3) := by decide +kernel
theorem dX6_copyElements_113 : decode cX6_copyElements 113 = .ok (.iload 6, 2) := by decide +kernel
theorem dX6_copyElements_115 : decode cX6_copyElements 115 = .ok (.aload_n 0, 1) := by decide +kernel
theorem dX6_copyElements_116 : decode cX6_copyElements 116 = .ok (.getfield 70, 3) := by decide +kernel
theorem dX6_copyElements_119 : decode cX6_copyElements 119 = .ok (.bipush 40, 2) := by decide +kernel
theorem dX6_copyElements_121 : decode cX6_copyElements 121 = .ok (.iload_n 1, 1) := by decide +kernel
theorem dX6_copyElements_122 : decode cX6_copyElements 122 = .ok (.imul, 1) := by decide +kernel
theorem dX6_copyElements_123 : decode cX6_copyElements 123 = .ok (.iload_n 2, 1) := by decide +kernel
theorem dX6_copyElements_124 : decode cX6_copyElements 124 = .ok (.iadd, 1) := by decide +kernel
theorem dX6_copyElements_125 : decode cX6_copyElements 125 = .ok (.iload 6, 2) := by decide +kernel
theorem dX6_copyElements_127 : decode cX6_copyElements 127 = .ok (.iadd, 1) := by decide +kernel
theorem dX6_copyElements_128 : decode cX6_copyElements 128 = .ok (.laload, 1) := by decide +kernel
theorem dX6_copyElements_129 : decode cX6_copyElements 129 = .ok (.lastore, 1) := by decide +kernel
theorem dX6_copyElements_130 : decode cX6_copyElements 130 = .ok (.iinc 6 1, 3) := by decide +kernel
theorem dX6_copyElements_133 : decode cX6_copyElements 133 = .ok (.goto (-31), 3) := by decide +kernel
theorem dX6_copyElements_136 : decode cX6_copyElements 136 = .ok (.iconst 0, 1) := by decide +kernel
theorem dX6_copyElements_137 : decode cX6_copyElements 137 = .ok (.istore 6, 2) := by decide +kernel
theorem dX6_copyElements_139 : decode cX6_copyElements 139 = .ok (.iload 6, 2) := by decide +kernel
theorem dX6_copyElements_141 : decode cX6_copyElements 141 = .ok (.iload 5, 2) := by decide +kernel
theorem dX6_copyElements_143 : decode cX6_copyElements 143 = .ok (.if_icmp .ge 31, 3) := by decide +kernel
theorem dX6_copyElements_146 : decode cX6_copyElements 146 = .ok (.aload_n 0, 1) := by decide +kernel
theorem dX6_copyElements_147 : decode cX6_copyElements 147 = .ok (.getfield 70, 3) := by decide +kernel
theorem dX6_copyElements_150 : decode cX6_copyElements 150 = .ok (.bipush 40, 2) := by decide +kernel
theorem dX6_copyElements_152 : decode cX6_copyElements 152 = .ok (.iload_n 3, 1) := by decide +kernel
theorem dX6_copyElements_153 : decode cX6_copyElements 153 = .ok (.imul, 1) := by decide +kernel
theorem dX6_copyElements_154 : decode cX6_copyElements 154 = .ok (.iload 4, 2) := by decide +kernel
theorem dX6_copyElements_156 : decode cX6_copyElements 156 = .ok (.iadd, 1) := by decide +kernel
theorem dX6_copyElements_157 : decode cX6_copyElements 157 = .ok (.iload 6, 2) := by decide +kernel
theorem dX6_copyElements_159 : decode cX6_copyElements 159 = .ok (.iadd, 1) := by decide +kernel
theorem dX6_copyElements_160 : decode cX6_copyElements 160 = .ok (.aload_n 0, 1) := by decide +kernel
theorem dX6_copyElements_161 : decode cX6_copyElements 161 = .ok (.getfield 74, 3) := by decide +kernel
theorem dX6_copyElements_164 : decode cX6_copyElements 164 = .ok (.iload 6, 2) := by decide +kernel
theorem dX6_copyElements_166 : decode cX6_copyElements 166 = .ok (.laload, 1) := by decide +kernel
theorem dX6_copyElements_167 : decode cX6_copyElements 167 = .ok (.lastore, 1) := by decide +kernel
theorem dX6_copyElements_168 : decode cX6_copyElements 168 = .ok (.iinc 6 1, 3) := by decide +kernel
theorem dX6_copyElements_171 : decode cX6_copyElements 171 = .ok (.goto (-32), 3) := by decide +kernel
theorem dX6_copyElements_174 : decode cX6_copyElements 174 = .ok (.iload 5, 2) := by decide +kernel
theorem dX6_copyElements_176 : decode cX6_copyElements 176 = .ok (.ireturn, 1) := by decide +kernel
theorem dX6_loadPattern_0 : decode cX6_loadPattern 0 = .ok (.iload_n 1, 1) := by decide +kernel
theorem dX6_loadPattern_1 : decode cX6_loadPattern 1 = .ok (.invokestatic 139, 3) := by decide +kernel
theorem dX6_loadPattern_4 : decode cX6_loadPattern 4 = .ok (.ifCond .ne 6, 3) := by decide +kernel
theorem dX6_loadPattern_7 : decode cX6_loadPattern 7 = .ok (.bipush (-2), 2) := by decide +kernel
theorem dX6_loadPattern_9 : decode cX6_loadPattern 9 = .ok (.ireturn, 1) := by decide +kernel
theorem dX6_loadPattern_10 : decode cX6_loadPattern 10 = .ok (.iload_n 2, 1) := by decide +kernel
theorem dX6_loadPattern_11 : decode cX6_loadPattern 11 = .ok (.invokestatic 273, 3) := by decide +kernel
theorem dX6_loadPattern_14 : decode cX6_loadPattern 14 = .ok (.ifCond .ne 5, 3) := by decide +kernel
theorem dX6_loadPattern_17 : decode cX6_loadPattern 17 = .ok (.iconst (-1), 1) := by decide +kernel
theorem dX6_loadPattern_18 : decode cX6_loadPattern 18 = .ok (.ireturn, 1) := by decide +kernel
theorem dX6_loadPattern_19 : decode cX6_loadPattern 19 = .ok (.aload_n 0, 1) := by decide +kernel
theorem dX6_loadPattern_20 : decode cX6_loadPattern 20 = .ok (.getfield 64, 3) := by decide +kernel
theorem dX6_loadPattern_23 : decode cX6_loadPattern 23 = .ok (.iload_n 2, 1) := by decide +kernel
theorem dX6_loadPattern_24 : decode cX6_loadPattern 24 = .ok (.iaload, 1) := by decide +kernel
theorem dX6_loadPattern_25 : decode cX6_loadPattern 25 = .ok (.ifCond .ge 6, 3) := by decide +kernel
theorem dX6_loadPattern_28 : decode cX6_loadPattern 28 = .ok (.bipush (-11), 2) := by decide +kernel
theorem dX6_loadPattern_30 : decode cX6_loadPattern 30 = .ok (.ireturn, 1) := by decide +kernel
theorem dX6_loadPattern_31 : decode cX6_loadPattern 31 = .ok (.aload_n 0, 1) := by decide +kernel
theorem dX6_loadPattern_32 : decode cX6_loadPattern 32 = .ok (.getfield 64, 3) := by decide +kernel
theorem dX6_loadPattern_35 : decode cX6_loadPattern 35 = .ok (.iload_n 2, 1) := by decide +kernel
theorem dX6_loadPattern_36 : decode cX6_loadPattern 36 = .ok (.iaload, 1) := by decide +kernel
theorem dX6_loadPattern_37 : decode cX6_loadPattern 37 = .ok (.iconst 1, 1) := by decide +kernel
theorem dX6_loadPattern_38 : decode cX6_loadPattern 38 = .ok (.if_icmp .eq 6, 3) := by decide +kernel
theorem dX6_loadPattern_41 : decode cX6_loadPattern 41 = .ok (.bipush (-12), 2) := by decide +kernel
theorem dX6_loadPattern_43 : decode cX6_loadPattern 43 = .ok (.ireturn, 1) := by decide +kernel
theorem dX6_loadPattern_44 : decode cX6_loadPattern 44 = .ok (.aload_n 0, 1) := by decide +kernel
theorem dX6_loadPattern_45 : decode cX6_loadPattern 45 = .ok (.getfield 67, 3) := by decide +kernel
theorem dX6_loadPattern_48 : decode cX6_loadPattern 48 = .ok (.iload_n 2, 1) := by decide +kernel
theorem dX6_loadPattern_49 : decode cX6_loadPattern 49 = .ok (.iaload, 1) := by decide +kernel
theorem dX6_loadPattern_50 : decode cX6_loadPattern 50 = .ok (.iconst 1, 1) := by decide +kernel
theorem dX6_loadPattern_51 : decode cX6_loadPattern 51 = .ok (.bipush 8, 2) := by decide +kernel
theorem dX6_loadPattern_53 : decode cX6_loadPattern 53 = .ok (.invokestatic 101, 3) := by decide +kernel
theorem dX6_loadPattern_56 : decode cX6_loadPattern 56 = .ok (.ifCond .ne 6, 3) := by decide +kernel
theorem dX6_loadPattern_59 : decode cX6_loadPattern 59 = .ok (.bipush (-5), 2) := by decide +kernel
theorem dX6_loadPattern_61 : decode cX6_loadPattern 61 = .ok (.ireturn, 1) := by decide +kernel
theorem dX6_loadPattern_62 : decode cX6_loadPattern 62 = .ok (.iconst 0, 1) := by decide +kernel
theorem dX6_loadPattern_63 : decode cX6_loadPattern 63 = .ok (.istore_n 3, 1) := by decide +kernel
theorem dX6_loadPattern_64 : decode cX6_loadPattern 64 = .ok (.iload_n 3, 1) := by decide +kernel
theorem dX6_loadPattern_65 : decode cX6_loadPattern 65 = .ok (.aload_n 0, 1) := by decide +kernel
theorem dX6_loadPattern_66 : decode cX6_loadPattern 66 = .ok (.getfield 67, 3) := by decide +kernel
theorem dX6_loadPattern_69 : decode cX6_loadPattern 69 = .ok (.iload_n 2, 1) := by decide +kernel
theorem dX6_loadPattern_70 : decode cX6_loadPattern 70 = .ok (.iaload, 1) := by decide +kernel
theorem dX6_loadPattern_71 : decode cX6_loadPattern 71 = .ok (.if_icmp .ge 43, 3) := by decide +kernel
theorem dX6_loadPattern_74 : decode cX6_loadPattern 74 = .ok (.aload_n 0, 1) := by decide +kernel
theorem dX6_loadPattern_75 : decode cX6_loadPattern 75 = .ok (.getfield 37, 3) := by decide +kernel
theorem dX6_loadPattern_78 : decode cX6_loadPattern 78 = .ok (.iload_n 3, 1) := by decide +kernel
theorem dX6_loadPattern_79 : decode cX6_loadPattern 79 = .ok (.aload_n 0, 1) := by decide +kernel
theorem dX6_loadPattern_80 : decode cX6_loadPattern 80 = .ok (.aload_n 0, 1) := by decide +kernel
theorem dX6_loadPattern_81 : decode cX6_loadPattern 81 = .ok (.getfield 70, 3) := by decide +kernel
theorem dX6_loadPattern_84 : decode cX6_loadPattern 84 = .ok (.bipush 40, 2) := by decide +kernel
theorem dX6_loadPattern_86 : decode cX6_loadPattern 86 = .ok (.iload_n 2, 1) := by decide +kernel
theorem dX6_loadPattern_87 : decode cX6_loadPattern 87 = .ok (.imul, 1) := by decide +kernel
theorem dX6_loadPattern_88 : decode cX6_loadPattern 88 = .ok (.iload_n 3, 1) := by decide +kernel
theorem dX6_loadPattern_89 : decode cX6_loadPattern 89 = .ok (.iadd, 1) := by decide +kernel
theorem dX6_loadPattern_90 : decode cX6_loadPattern 90 = .ok (.laload, 1) := by decide +kernel
theorem dX6_loadPattern_91 : decode cX6_loadPattern 91 = .ok (.l2i, 1) := by decide +kernel
theorem dX6_loadPattern_92 : decode cX6_loadPattern 92 = .ok (.invokevirtual 108, 3) := by decide +kernel
theorem dX6_loadPattern_95 : decode cX6_loadPattern 95 = .ok (.iastore, 1) := by decide +kernel
theorem dX6_loadPattern_96 : decode cX6_loadPattern 96 = .ok (.aload_n 0, 1) := by decide +kernel
theorem dX6_loadPattern_97 : decode cX6_loadPattern 97 = .ok (.getfield 37, 3) := by decide +kernel
theorem dX6_loadPattern_100 : decode cX6_loadPattern 100 = .ok (.iload_n 3, 1) := by decide +kernel
theorem dX6_loadPattern_101 : decode cX6_loadPattern 101 = .ok (.iaload, 1) := by decide +kernel
theorem dX6_loadPattern_102 : decode cX6_loadPattern 102 = .ok (.ifCond .ge 6, 3) := by decide +kernel
theorem dX6_loadPattern_105 : decode cX6_loadPattern 105 = .ok (.bipush (-5), 2) := by decide +kernel
theorem dX6_loadPattern_107 : decode cX6_loadPattern 107 = .ok (.ireturn, 1) := by decide +kernel
theorem dX6_loadPattern_108 : decode cX6_loadPattern 108 = .ok (.iinc 3 1, 3) := by decide +kernel
theorem dX6_loadPattern_111 : decode cX6_loadPattern 111 = .ok (.goto (-47), 3) := by decide +kernel
theorem dX6_loadPattern_114 : decode cX6_loadPattern 114 = .ok (.aload_n 0, 1) := by decide +kernel
theorem dX6_loadPattern_115 : decode cX6_loadPattern 115 = .ok (.aload_n 0, 1) := by decide +kernel
theorem dX6_loadPattern_116 : decode cX6_loadPattern 116 = .ok (.getfield 67, 3) := by decide +kernel
theorem dX6_loadPattern_119 : decode cX6_loadPattern 119 = .ok (.iload_n 2, 1) := by decide +kernel
theorem dX6_loadPattern_120 : decode cX6_loadPattern 120 = .ok (.iaload, 1) := by decide +kernel
theorem dX6_loadPattern_121 : decode cX6_loadPattern 121 = .ok (.putfield 112, 3) := by decide +kernel
theorem dX6_loadPattern_124 : decode cX6_loadPattern 124 = .ok (.aload_n 0, 1) := by decide +kernel
theorem dX6_loadPattern_125 : decode cX6_loadPattern 125 = .ok (.iload_n 1, 1) := by decide +kernel
theorem dX6_loadPattern_126 : decode cX6_loadPattern 126 = .ok (.invokevirtual 143, 3) := by decide +kernel
theorem dX6_loadPattern_129 : decode cX6_loadPattern 129 = .ok (.ireturn, 1) := by decide +kernel
theorem dX6_carry_0 : decode cX6_carry 0 = .ok (.iload_n 2, 1) := by decide +kernel
theorem dX6_carry_1 : decode cX6_carry 1 = .ok (.ifCond .eq 7, 3) := by decide +kernel
theorem dX6_carry_4 : decode cX6_carry 4 = .ok (.aload_n 0, 1) := by decide +kernel
theorem dX6_carry_5 : decode cX6_carry 5 = .ok (.goto 4, 3) := by decide +kernel
theorem dX6_carry_8 : decode cX6_carry 8 = .ok (.aload_n 1, 1) := by decide +kernel
theorem dX6_carry_9 : decode cX6_carry 9 = .ok (.iconst 0, 1) := by decide +kernel
theorem dX6_carry_10 : decode cX6_carry 10 = .ok (.iload_n 2, 1) := by decide +kernel
theorem dX6_carry_11 : decode cX6_carry 11 = .ok (.ifCond .eq 7, 3) := by decide +kernel
theorem dX6_carry_14 : decode cX6_carry 14 = .ok (.aload_n 1, 1) := by decide +kernel
theorem dX6_carry_15 : decode cX6_carry 15 = .ok (.goto 4, 3) := by decide +kernel
theorem dX6_carry_18 : decode cX6_carry 18 = .ok (.aload_n 0, 1) := by decide +kernel
theorem dX6_carry_19 : decode cX6_carry 19 = .ok (.iconst 0, 1) := by decide +kernel
theorem dX6_carry_20 : decode cX6_carry 20 = .ok (.aload_n 0, 1) := by decide +kernel
theorem dX6_carry_21 : decode cX6_carry 21 = .ok (.arraylength, 1) := by decide +kernel
theorem dX6_carry_22 : decode cX6_carry 22 = .ok (.invokestatic 125, 3) := by decide +kernel
theorem dX6_carry_25 : decode cX6_carry 25 = .ok (.return_, 1) := by decide +kernel
theorem dX6_carryAll_0 : decode cX6_carryAll 0 = .ok (.aload_n 0, 1) := by decide +kernel
theorem dX6_carryAll_1 : decode cX6_carryAll 1 = .ok (.getfield 15, 3) := by decide +kernel
theorem dX6_carryAll_4 : decode cX6_carryAll 4 = .ok (.aload_n 0, 1) := by decide +kernel
theorem dX6_carryAll_5 : decode cX6_carryAll 5 = .ok (.getfield 77, 3) := by decide +kernel
theorem dX6_carryAll_8 : decode cX6_carryAll 8 = .ok (.iload_n 1, 1) := by decide +kernel
theorem dX6_carryAll_9 : decode cX6_carryAll 9 = .ok (.invokestatic 280, 3) := by decide +kernel
theorem dX6_carryAll_12 : decode cX6_carryAll 12 = .ok (.aload_n 0, 1) := by decide +kernel
theorem dX6_carryAll_13 : decode cX6_carryAll 13 = .ok (.getfield 19, 3) := by decide +kernel
theorem dX6_carryAll_16 : decode cX6_carryAll 16 = .ok (.aload_n 0, 1) := by decide +kernel
theorem dX6_carryAll_17 : decode cX6_carryAll 17 = .ok (.getfield 80, 3) := by decide +kernel
theorem dX6_carryAll_20 : decode cX6_carryAll 20 = .ok (.iload_n 1, 1) := by decide +kernel
theorem dX6_carryAll_21 : decode cX6_carryAll 21 = .ok (.invokestatic 280, 3) := by decide +kernel
theorem dX6_carryAll_24 : decode cX6_carryAll 24 = .ok (.aload_n 0, 1) := by decide +kernel
theorem dX6_carryAll_25 : decode cX6_carryAll 25 = .ok (.getfield 22, 3) := by decide +kernel
theorem dX6_carryAll_28 : decode cX6_carryAll 28 = .ok (.aload_n 0, 1) := by decide +kernel
theorem dX6_carryAll_29 : decode cX6_carryAll 29 = .ok (.getfield 83, 3) := by decide +kernel
theorem dX6_carryAll_32 : decode cX6_carryAll 32 = .ok (.iload_n 1, 1) := by decide +kernel
theorem dX6_carryAll_33 : decode cX6_carryAll 33 = .ok (.invokestatic 280, 3) := by decide +kernel
theorem dX6_carryAll_36 : decode cX6_carryAll 36 = .ok (.aload_n 0, 1) := by decide +kernel
theorem dX6_carryAll_37 : decode cX6_carryAll 37 = .ok (.getfield 25, 3) := by decide +kernel
theorem dX6_carryAll_40 : decode cX6_carryAll 40 = .ok (.aload_n 0, 1) := by decide +kernel
theorem dX6_carryAll_41 : decode cX6_carryAll 41 = .ok (.getfield 86, 3) := by decide +kernel
theorem dX6_carryAll_44 : decode cX6_carryAll 44 = .ok (.iload_n 1, 1) := by decide +kernel
theorem dX6_carryAll_45 : decode cX6_carryAll 45 = .ok (.invokestatic 280, 3) := by decide +kernel
theorem dX6_carryAll_48 : decode cX6_carryAll 48 = .ok (.aload_n 0, 1) := by decide +kernel
theorem dX6_carryAll_49 : decode cX6_carryAll 49 = .ok (.getfield 28, 3) := by decide +kernel
theorem dX6_carryAll_52 : decode cX6_carryAll 52 = .ok (.aload_n 0, 1) := by decide +kernel
theorem dX6_carryAll_53 : decode cX6_carryAll 53 = .ok (.getfield 89, 3) := by decide +kernel
theorem dX6_carryAll_56 : decode cX6_carryAll 56 = .ok (.iload_n 1, 1) := by decide +kernel
theorem dX6_carryAll_57 : decode cX6_carryAll 57 = .ok (.invokestatic 280, 3) := by decide +kernel
theorem dX6_carryAll_60 : decode cX6_carryAll 60 = .ok (.aload_n 0, 1) := by decide +kernel
theorem dX6_carryAll_61 : decode cX6_carryAll 61 = .ok (.getfield 31, 3) := by decide +kernel
theorem dX6_carryAll_64 : decode cX6_carryAll 64 = .ok (.aload_n 0, 1) := by decide +kernel
theorem dX6_carryAll_65 : decode cX6_carryAll 65 = .ok (.getfield 92, 3) := by decide +kernel
theorem dX6_carryAll_68 : decode cX6_carryAll 68 = .ok (.iload_n 1, 1) := by decide +kernel
theorem dX6_carryAll_69 : decode cX6_carryAll 69 = .ok (.invokestatic 280, 3) := by decide +kernel
theorem dX6_carryAll_72 : decode cX6_carryAll 72 = .ok (.return_, 1) := by decide +kernel
theorem dX6_snapshot_0 : decode cX6_snapshot 0 = .ok (.aload_n 0, 1) := by decide +kernel
theorem dX6_snapshot_1 : decode cX6_snapshot 1 = .ok (.iconst 1, 1) := by decide +kernel
theorem dX6_snapshot_2 : decode cX6_snapshot 2 = .ok (.invokevirtual 284, 3) := by decide +kernel
theorem dX6_snapshot_5 : decode cX6_snapshot 5 = .ok (.aload_n 0, 1) := by decide +kernel
theorem dX6_snapshot_6 : decode cX6_snapshot 6 = .ok (.aload_n 0, 1) := by decide +kernel
theorem dX6_snapshot_7 : decode cX6_snapshot 7 = .ok (.getfield 9, 3) := by decide +kernel
theorem dX6_snapshot_10 : decode cX6_snapshot 10 = .ok (.putfield 288, 3) := by decide +kernel
theorem dX6_snapshot_13 : decode cX6_snapshot 13 = .ok (.aload_n 0, 1) := by decide +kernel
theorem dX6_snapshot_14 : decode cX6_snapshot 14 = .ok (.aload_n 0, 1) := by decide +kernel
theorem dX6_snapshot_15 : decode cX6_snapshot 15 = .ok (.getfield 98, 3) := by decide +kernel
theorem dX6_snapshot_18 : decode cX6_snapshot 18 = .ok (.putfield 291, 3) := by decide +kernel
theorem dX6_snapshot_21 : decode cX6_snapshot 21 = .ok (.aload_n 0, 1) := by decide +kernel
theorem dX6_snapshot_22 : decode cX6_snapshot 22 = .ok (.iconst 1, 1) := by decide +kernel
theorem dX6_snapshot_23 : decode cX6_snapshot 23 = .ok (.putfield 294, 3) := by decide +kernel
theorem dX6_snapshot_26 : decode cX6_snapshot 26 = .ok (.aload_n 0, 1) := by decide +kernel
theorem dX6_snapshot_27 : decode cX6_snapshot 27 = .ok (.getfield 98, 3) := by decide +kernel
theorem dX6_snapshot_30 : decode cX6_snapshot 30 = .ok (.ireturn, 1) := by decide +kernel
theorem dX6_restore_0 : decode cX6_restore 0 = .ok (.aload_n 0, 1) := by decide +kernel
theorem dX6_restore_1 : decode cX6_restore 1 = .ok (.getfield 294, 3) := by decide +kernel
theorem dX6_restore_4 : decode cX6_restore 4 = .ok (.ifCond .ne 6, 3) := by decide +kernel
theorem dX6_restore_7 : decode cX6_restore 7 = .ok (.bipush (-6), 2) := by decide +kernel
theorem dX6_restore_9 : decode cX6_restore 9 = .ok (.ireturn, 1) := by decide +kernel
theorem dX6_restore_10 : decode cX6_restore 10 = .ok (.aload_n 0, 1) := by decide +kernel
theorem dX6_restore_11 : decode cX6_restore 11 = .ok (.iconst 0, 1) := by decide +kernel
theorem dX6_restore_12 : decode cX6_restore 12 = .ok (.invokevirtual 284, 3) := by decide +kernel
theorem dX6_restore_15 : decode cX6_restore 15 = .ok (.aload_n 0, 1) := by decide +kernel
theorem dX6_restore_16 : decode cX6_restore 16 = .ok (.aload_n 0, 1) := by decide +kernel
theorem dX6_restore_17 : decode cX6_restore 17 = .ok (.getfield 288, 3) := by decide +kernel
theorem dX6_restore_20 : decode cX6_restore 20 = .ok (.putfield 9, 3) := by decide +kernel
theorem dX6_restore_23 : decode cX6_restore 23 = .ok (.aload_n 0, 1) := by decide +kernel
theorem dX6_restore_24 : decode cX6_restore 24 = .ok (.aload_n 0, 1) := by decide +kernel
theorem dX6_restore_25 : decode cX6_restore 25 = .ok (.getfield 291, 3) := by decide +kernel
theorem dX6_restore_28 : decode cX6_restore 28 = .ok (.putfield 98, 3) := by decide +kernel
theorem dX6_restore_31 : decode cX6_restore 31 = .ok (.aload_n 0, 1) := by decide +kernel
theorem dX6_restore_32 : decode cX6_restore 32 = .ok (.getfield 98, 3) := by decide +kernel
theorem dX6_restore_35 : decode cX6_restore 35 = .ok (.ireturn, 1) := by decide +kernel
