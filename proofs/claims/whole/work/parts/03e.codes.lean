theorem dX6_step_22 : decode cX6_step 22 = .ok (.iload_n 2, 1) := by decide +kernel
theorem dX6_step_23 : decode cX6_step 23 = .ok (.if_icmp .ne 56, 3) := by decide +kernel
theorem dX6_step_26 : decode cX6_step 26 = .ok (.aload_n 0, 1) := by decide +kernel
theorem dX6_step_27 : decode cX6_step 27 = .ok (.getfield 93, 3) := by decide +kernel
theorem dX6_step_30 : decode cX6_step 30 = .ok (.iload_n 3, 1) := by decide +kernel
theorem dX6_step_31 : decode cX6_step 31 = .ok (.iaload, 1) := by decide +kernel
theorem dX6_step_32 : decode cX6_step 32 = .ok (.iload_n 1, 1) := by decide +kernel
theorem dX6_step_33 : decode cX6_step 33 = .ok (.if_icmp .gt 46, 3) := by decide +kernel
theorem dX6_step_36 : decode cX6_step 36 = .ok (.iload_n 2, 1) := by decide +kernel
theorem dX6_step_37 : decode cX6_step 37 = .ok (.iconst 2, 1) := by decide +kernel
theorem dX6_step_38 : decode cX6_step 38 = .ok (.if_icmp .eq 22, 3) := by decide +kernel
theorem dX6_step_41 : decode cX6_step 41 = .ok (.aload_n 0, 1) := by decide +kernel
theorem dX6_step_42 : decode cX6_step 42 = .ok (.getfield 99, 3) := by decide +kernel
theorem dX6_step_45 : decode cX6_step 45 = .ok (.iload_n 2, 1) := by decide +kernel
theorem dX6_step_46 : decode cX6_step 46 = .ok (.iconst 1, 1) := by decide +kernel
theorem dX6_step_47 : decode cX6_step 47 = .ok (.iadd, 1) := by decide +kernel
theorem dX6_step_48 : decode cX6_step 48 = .ok (.iaload, 1) := by decide +kernel
theorem dX6_step_49 : decode cX6_step 49 = .ok (.aload_n 0, 1) := by decide +kernel
theorem dX6_step_50 : decode cX6_step 50 = .ok (.getfield 50, 3) := by decide +kernel
theorem dX6_step_53 : decode cX6_step 53 = .ok (.iload_n 2, 1) := by decide +kernel
theorem dX6_step_54 : decode cX6_step 54 = .ok (.iconst 1, 1) := by decide +kernel
theorem dX6_step_55 : decode cX6_step 55 = .ok (.iadd, 1) := by decide +kernel
theorem dX6_step_56 : decode cX6_step 56 = .ok (.iaload, 1) := by decide +kernel
theorem dX6_step_57 : decode cX6_step 57 = .ok (.if_icmp .ge 22, 3) := by decide +kernel
theorem dX6_step_60 : decode cX6_step 60 = .ok (.aload_n 0, 1) := by decide +kernel
theorem dX6_step_61 : decode cX6_step 61 = .ok (.iload_n 3, 1) := by decide +kernel
theorem dX6_step_62 : decode cX6_step 62 = .ok (.iload_n 2, 1) := by decide +kernel
theorem dX6_step_63 : decode cX6_step 63 = .ok (.iconst 1, 1) := by decide +kernel
theorem dX6_step_64 : decode cX6_step 64 = .ok (.iadd, 1) := by decide +kernel
theorem dX6_step_65 : decode cX6_step 65 = .ok (.iload_n 1, 1) := by decide +kernel
theorem dX6_step_66 : decode cX6_step 66 = .ok (.invokevirtual 164, 3) := by decide +kernel
theorem dX6_step_69 : decode cX6_step 69 = .ok (.aload_n 0, 1) := by decide +kernel
theorem dX6_step_70 : decode cX6_step 70 = .ok (.getfield 99, 3) := by decide +kernel
theorem dX6_step_73 : decode cX6_step 73 = .ok (.iload_n 2, 1) := by decide +kernel
theorem dX6_step_74 : decode cX6_step 74 = .ok (.dup2, 1) := by decide +kernel
theorem dX6_step_75 : decode cX6_step 75 = .ok (.iaload, 1) := by decide +kernel
theorem dX6_step_76 : decode cX6_step 76 = .ok (.iconst 1, 1) := by decide +kernel
theorem dX6_step_77 : decode cX6_step 77 = .ok (.isub, 1) := by decide +kernel
theorem dX6_step_78 : decode cX6_step 78 = .ok (.iastore, 1) := by decide +kernel
theorem dX6_step_79 : decode cX6_step 79 = .ok (.iinc 3 1, 3) := by decide +kernel
theorem dX6_step_82 : decode cX6_step 82 = .ok (.goto (-74), 3) := by decide +kernel
theorem dX6_step_85 : decode cX6_step 85 = .ok (.iinc 2 (-1), 3) := by decide +kernel
theorem dX6_step_88 : decode cX6_step 88 = .ok (.goto (-86), 3) := by decide +kernel
theorem dX6_step_91 : decode cX6_step 91 = .ok (.iconst 0, 1) := by decide +kernel
theorem dX6_step_92 : decode cX6_step 92 = .ok (.istore_n 2, 1) := by decide +kernel
theorem dX6_step_93 : decode cX6_step 93 = .ok (.iload_n 2, 1) := by decide +kernel
theorem dX6_step_94 : decode cX6_step 94 = .ok (.aload_n 0, 1) := by decide +kernel
theorem dX6_step_95 : decode cX6_step 95 = .ok (.getfield 161, 3) := by decide +kernel
theorem dX6_step_98 : decode cX6_step 98 = .ok (.if_icmp .ge 51, 3) := by decide +kernel
theorem dX6_step_101 : decode cX6_step 101 = .ok (.aload_n 0, 1) := by decide +kernel
theorem dX6_step_102 : decode cX6_step 102 = .ok (.getfield 90, 3) := by decide +kernel
theorem dX6_step_105 : decode cX6_step 105 = .ok (.iload_n 2, 1) := by decide +kernel
theorem dX6_step_106 : decode cX6_step 106 = .ok (.iaload, 1) := by decide +kernel
theorem dX6_step_107 : decode cX6_step 107 = .ok (.iconst (-1), 1) := by decide +kernel
theorem dX6_step_108 : decode cX6_step 108 = .ok (.if_icmp .ne 35, 3) := by decide +kernel
theorem dX6_step_111 : decode cX6_step 111 = .ok (.aload_n 0, 1) := by decide +kernel
theorem dX6_step_112 : decode cX6_step 112 = .ok (.getfield 56, 3) := by decide +kernel
theorem dX6_step_115 : decode cX6_step 115 = .ok (.iload_n 2, 1) := by decide +kernel
theorem dX6_step_116 : decode cX6_step 116 = .ok (.iaload, 1) := by decide +kernel
theorem dX6_step_117 : decode cX6_step 117 = .ok (.iload_n 1, 1) := by decide +kernel
theorem dX6_step_118 : decode cX6_step 118 = .ok (.if_icmp .gt 25, 3) := by decide +kernel
theorem dX6_step_121 : decode cX6_step 121 = .ok (.aload_n 0, 1) := by decide +kernel
theorem dX6_step_122 : decode cX6_step 122 = .ok (.getfield 99, 3) := by decide +kernel
theorem dX6_step_125 : decode cX6_step 125 = .ok (.iconst 0, 1) := by decide +kernel
theorem dX6_step_126 : decode cX6_step 126 = .ok (.iaload, 1) := by decide +kernel
theorem dX6_step_127 : decode cX6_step 127 = .ok (.aload_n 0, 1) := by decide +kernel
theorem dX6_step_128 : decode cX6_step 128 = .ok (.getfield 50, 3) := by decide +kernel
theorem dX6_step_131 : decode cX6_step 131 = .ok (.iconst 0, 1) := by decide +kernel
theorem dX6_step_132 : decode cX6_step 132 = .ok (.iaload, 1) := by decide +kernel
theorem dX6_step_133 : decode cX6_step 133 = .ok (.if_icmp .ge 10, 3) := by decide +kernel
theorem dX6_step_136 : decode cX6_step 136 = .ok (.aload_n 0, 1) := by decide +kernel
theorem dX6_step_137 : decode cX6_step 137 = .ok (.iload_n 2, 1) := by decide +kernel
theorem dX6_step_138 : decode cX6_step 138 = .ok (.iconst 0, 1) := by decide +kernel
theorem dX6_step_139 : decode cX6_step 139 = .ok (.iload_n 1, 1) := by decide +kernel
theorem dX6_step_140 : decode cX6_step 140 = .ok (.invokevirtual 164, 3) := by decide +kernel
theorem dX6_step_143 : decode cX6_step 143 = .ok (.iinc 2 1, 3) := by decide +kernel
theorem dX6_step_146 : decode cX6_step 146 = .ok (.goto (-53), 3) := by decide +kernel
theorem dX6_step_149 : decode cX6_step 149 = .ok (.iconst 0, 1) := by decide +kernel
theorem dX6_step_150 : decode cX6_step 150 = .ok (.istore_n 2, 1) := by decide +kernel
theorem dX6_step_151 : decode cX6_step 151 = .ok (.iconst 0, 1) := by decide +kernel
theorem dX6_step_152 : decode cX6_step 152 = .ok (.istore_n 3, 1) := by decide +kernel
theorem dX6_step_153 : decode cX6_step 153 = .ok (.iload_n 3, 1) := by decide +kernel
theorem dX6_step_154 : decode cX6_step 154 = .ok (.aload_n 0, 1) := by decide +kernel
theorem dX6_step_155 : decode cX6_step 155 = .ok (.getfield 161, 3) := by decide +kernel
theorem dX6_step_158 : decode cX6_step 158 = .ok (.if_icmp .ge 37, 3) := by decide +kernel
theorem dX6_step_161 : decode cX6_step 161 = .ok (.iload_n 2, 1) := by decide +kernel
theorem dX6_step_162 : decode cX6_step 162 = .ok (.aload_n 0, 1) := by decide +kernel
theorem dX6_step_163 : decode cX6_step 163 = .ok (.getfield 90, 3) := by decide +kernel
theorem dX6_step_166 : decode cX6_step 166 = .ok (.iload_n 3, 1) := by decide +kernel
theorem dX6_step_167 : decode cX6_step 167 = .ok (.iaload, 1) := by decide +kernel
theorem dX6_step_168 : decode cX6_step 168 = .ok (.iconst (-1), 1) := by decide +kernel
theorem dX6_step_169 : decode cX6_step 169 = .ok (.if_icmp .ne 17, 3) := by decide +kernel
theorem dX6_step_172 : decode cX6_step 172 = .ok (.aload_n 0, 1) := by decide +kernel
theorem dX6_step_173 : decode cX6_step 173 = .ok (.getfield 56, 3) := by decide +kernel
theorem dX6_step_176 : decode cX6_step 176 = .ok (.iload_n 3, 1) := by decide +kernel
theorem dX6_step_177 : decode cX6_step 177 = .ok (.iaload, 1) := by decide +kernel
theorem dX6_step_178 : decode cX6_step 178 = .ok (.iload_n 1, 1) := by decide +kernel
theorem dX6_step_179 : decode cX6_step 179 = .ok (.if_icmp .gt 7, 3) := by decide +kernel
theorem dX6_step_182 : decode cX6_step 182 = .ok (.iconst 1, 1) := by decide +kernel
theorem dX6_step_183 : decode cX6_step 183 = .ok (.goto 4, 3) := by decide +kernel
theorem dX6_step_186 : decode cX6_step 186 = .ok (.iconst 0, 1) := by decide +kernel
theorem dX6_step_187 : decode cX6_step 187 = .ok (.iadd, 1) := by decide +kernel
theorem dX6_step_188 : decode cX6_step 188 = .ok (.istore_n 2, 1) := by decide +kernel
theorem dX6_step_189 : decode cX6_step 189 = .ok (.iinc 3 1, 3) := by decide +kernel
theorem dX6_step_192 : decode cX6_step 192 = .ok (.goto (-39), 3) := by decide +kernel
theorem dX6_step_195 : decode cX6_step 195 = .ok (.aload_n 0, 1) := by decide +kernel
theorem dX6_step_196 : decode cX6_step 196 = .ok (.getfield 99, 3) := by decide +kernel
theorem dX6_step_199 : decode cX6_step 199 = .ok (.iconst 3, 1) := by decide +kernel
theorem dX6_step_200 : decode cX6_step 200 = .ok (.iload_n 2, 1) := by decide +kernel
theorem dX6_step_201 : decode cX6_step 201 = .ok (.iastore, 1) := by decide +kernel
theorem dX6_step_202 : decode cX6_step 202 = .ok (.iconst 0, 1) := by decide +kernel
theorem dX6_step_203 : decode cX6_step 203 = .ok (.istore_n 3, 1) := by decide +kernel
theorem dX6_step_204 : decode cX6_step 204 = .ok (.iload_n 3, 1) := by decide +kernel
theorem dX6_step_205 : decode cX6_step 205 = .ok (.iconst 4, 1) := by decide +kernel
theorem dX6_step_206 : decode cX6_step 206 = .ok (.if_icmp .ge 45, 3) := by decide +kernel
theorem dX6_step_209 : decode cX6_step 209 = .ok (.aload_n 0, 1) := by decide +kernel
theorem dX6_step_210 : decode cX6_step 210 = .ok (.getfield 102, 3) := by decide +kernel
theorem dX6_step_213 : decode cX6_step 213 = .ok (.iload_n 3, 1) := by decide +kernel
theorem dX6_step_214 : decode cX6_step 214 = .ok (.aload_n 0, 1) := by decide +kernel
theorem dX6_step_215 : decode cX6_step 215 = .ok (.getfield 99, 3) := by decide +kernel
theorem dX6_step_218 : decode cX6_step 218 = .ok (.iload_n 3, 1) := by decide +kernel
theorem dX6_step_219 : decode cX6_step 219 = .ok (.iaload, 1) := by decide +kernel
theorem dX6_step_220 : decode cX6_step 220 = .ok (.aload_n 0, 1) := by decide +kernel
theorem dX6_step_221 : decode cX6_step 221 = .ok (.getfield 102, 3) := by decide +kernel
theorem dX6_step_224 : decode cX6_step 224 = .ok (.iload_n 3, 1) := by decide +kernel
theorem dX6_step_225 : decode cX6_step 225 = .ok (.iaload, 1) := by decide +kernel
theorem dX6_step_226 : decode cX6_step 226 = .ok (.if_icmp .le 12, 3) := by decide +kernel
theorem dX6_step_229 : decode cX6_step 229 = .ok (.aload_n 0, 1) := by decide +kernel
theorem dX6_step_230 : decode cX6_step 230 = .ok (.getfield 99, 3) := by decide +kernel
theorem dX6_step_233 : decode cX6_step 233 = .ok (.iload_n 3, 1) := by decide +kernel
theorem dX6_step_234 : decode cX6_step 234 = .ok (.iaload, 1) := by decide +kernel
theorem dX6_step_235 : decode cX6_step 235 = .ok (.goto 9, 3) := by decide +kernel
theorem dX6_step_238 : decode cX6_step 238 = .ok (.aload_n 0, 1) := by decide +kernel
theorem dX6_step_239 : decode cX6_step 239 = .ok (.getfield 102, 3) := by decide +kernel
theorem dX6_step_242 : decode cX6_step 242 = .ok (.iload_n 3, 1) := by decide +kernel
theorem dX6_step_243 : decode cX6_step 243 = .ok (.iaload, 1) := by decide +kernel
theorem dX6_step_244 : decode cX6_step 244 = .ok (.iastore, 1) := by decide +kernel
theorem dX6_step_245 : decode cX6_step 245 = .ok (.iinc 3 1, 3) := by decide +kernel
theorem dX6_step_248 : decode cX6_step 248 = .ok (.goto (-44), 3) := by decide +kernel
theorem dX6_step_251 : decode cX6_step 251 = .ok (.return_, 1) := by decide +kernel
theorem dX6_enter_0 : decode cX6_enter 0 = .ok (.aload_n 0, 1) := by decide +kernel
theorem dX6_enter_1 : decode cX6_enter 1 = .ok (.getfield 90, 3) := by decide +kernel
theorem dX6_enter_4 : decode cX6_enter 4 = .ok (.iload_n 1, 1) := by decide +kernel
theorem dX6_enter_5 : decode cX6_enter 5 = .ok (.iload_n 2, 1) := by decide +kernel
theorem dX6_enter_6 : decode cX6_enter 6 = .ok (.iastore, 1) := by decide +kernel
theorem dX6_enter_7 : decode cX6_enter 7 = .ok (.iload_n 2, 1) := by decide +kernel
theorem dX6_enter_8 : decode cX6_enter 8 = .ok (.iconst 3, 1) := by decide +kernel
theorem dX6_enter_9 : decode cX6_enter 9 = .ok (.if_icmp .ne 13, 3) := by decide +kernel
theorem dX6_enter_12 : decode cX6_enter 12 = .ok (.aload_n 0, 1) := by decide +kernel
theorem dX6_enter_13 : decode cX6_enter 13 = .ok (.getfield 96, 3) := by decide +kernel
theorem dX6_enter_16 : decode cX6_enter 16 = .ok (.iload_n 1, 1) := by decide +kernel
theorem dX6_enter_17 : decode cX6_enter 17 = .ok (.iload_n 3, 1) := by decide +kernel
theorem dX6_enter_18 : decode cX6_enter 18 = .ok (.iastore, 1) := by decide +kernel
theorem dX6_enter_19 : decode cX6_enter 19 = .ok (.goto 27, 3) := by decide +kernel
theorem dX6_enter_22 : decode cX6_enter 22 = .ok (.aload_n 0, 1) := by decide +kernel
theorem dX6_enter_23 : decode cX6_enter 23 = .ok (.getfield 93, 3) := by decide +kernel
theorem dX6_enter_26 : decode cX6_enter 26 = .ok (.iload_n 1, 1) := by decide +kernel
theorem dX6_enter_27 : decode cX6_enter 27 = .ok (.iload_n 3, 1) := by decide +kernel
theorem dX6_enter_28 : decode cX6_enter 28 = .ok (.aload_n 0, 1) := by decide +kernel
theorem dX6_enter_29 : decode cX6_enter 29 = .ok (.getfield 53, 3) := by decide +kernel
theorem dX6_enter_32 : decode cX6_enter 32 = .ok (.iload_n 2, 1) := by decide +kernel
theorem dX6_enter_33 : decode cX6_enter 33 = .ok (.iaload, 1) := by decide +kernel
theorem dX6_enter_34 : decode cX6_enter 34 = .ok (.iadd, 1) := by decide +kernel
theorem dX6_enter_35 : decode cX6_enter 35 = .ok (.iastore, 1) := by decide +kernel
theorem dX6_enter_36 : decode cX6_enter 36 = .ok (.aload_n 0, 1) := by decide +kernel
theorem dX6_enter_37 : decode cX6_enter 37 = .ok (.getfield 99, 3) := by decide +kernel
theorem dX6_enter_40 : decode cX6_enter 40 = .ok (.iload_n 2, 1) := by decide +kernel
theorem dX6_enter_41 : decode cX6_enter 41 = .ok (.dup2, 1) := by decide +kernel
theorem dX6_enter_42 : decode cX6_enter 42 = .ok (.iaload, 1) := by decide +kernel
theorem dX6_enter_43 : decode cX6_enter 43 = .ok (.iconst 1, 1) := by decide +kernel
theorem dX6_enter_44 : decode cX6_enter 44 = .ok (.iadd, 1) := by decide +kernel
theorem dX6_enter_45 : decode cX6_enter 45 = .ok (.iastore, 1) := by decide +kernel
theorem dX6_enter_46 : decode cX6_enter 46 = .ok (.return_, 1) := by decide +kernel
theorem dX6_stepAll_0 : decode cX6_stepAll 0 = .ok (.iconst 0, 1) := by decide +kernel
theorem dX6_stepAll_1 : decode cX6_stepAll 1 = .ok (.istore_n 1, 1) := by decide +kernel
theorem dX6_stepAll_2 : decode cX6_stepAll 2 = .ok (.iload_n 1, 1) := by decide +kernel
theorem dX6_stepAll_3 : decode cX6_stepAll 3 = .ok (.iconst 4, 1) := by decide +kernel
theorem dX6_stepAll_4 : decode cX6_stepAll 4 = .ok (.if_icmp .ge 23, 3) := by decide +kernel
theorem dX6_stepAll_7 : decode cX6_stepAll 7 = .ok (.aload_n 0, 1) := by decide +kernel
theorem dX6_stepAll_8 : decode cX6_stepAll 8 = .ok (.getfield 99, 3) := by decide +kernel
theorem dX6_stepAll_11 : decode cX6_stepAll 11 = .ok (.iload_n 1, 1) := by decide +kernel
theorem dX6_stepAll_12 : decode cX6_stepAll 12 = .ok (.iconst 0, 1) := by decide +kernel
theorem dX6_stepAll_13 : decode cX6_stepAll 13 = .ok (.iastore, 1) := by decide +kernel
theorem dX6_stepAll_14 : decode cX6_stepAll 14 = .ok (.aload_n 0, 1) := by decide +kernel
theorem dX6_stepAll_15 : decode cX6_stepAll 15 = .ok (.getfield 102, 3) := by decide +kernel
theorem dX6_stepAll_18 : decode cX6_stepAll 18 = .ok (.iload_n 1, 1) := by decide +kernel
theorem dX6_stepAll_19 : decode cX6_stepAll 19 = .ok (.iconst 0, 1) := by decide +kernel
theorem dX6_stepAll_20 : decode cX6_stepAll 20 = .ok (.iastore, 1) := by decide +kernel
theorem dX6_stepAll_21 : decode cX6_stepAll 21 = .ok (.iinc 1 1, 3) := by decide +kernel
theorem dX6_stepAll_24 : decode cX6_stepAll 24 = .ok (.goto (-22), 3) := by decide +kernel
theorem dX6_stepAll_27 : decode cX6_stepAll 27 = .ok (.iconst 0, 1) := by decide +kernel
theorem dX6_stepAll_28 : decode cX6_stepAll 28 = .ok (.istore_n 1, 1) := by decide +kernel
theorem dX6_stepAll_29 : decode cX6_stepAll 29 = .ok (.iload_n 1, 1) := by decide +kernel
theorem dX6_stepAll_30 : decode cX6_stepAll 30 = .ok (.aload_n 0, 1) := by decide +kernel
theorem dX6_stepAll_31 : decode cX6_stepAll 31 = .ok (.getfield 161, 3) := by decide +kernel
theorem dX6_stepAll_34 : decode cX6_stepAll 34 = .ok (.if_icmp .ge 23, 3) := by decide +kernel
theorem dX6_stepAll_37 : decode cX6_stepAll 37 = .ok (.aload_n 0, 1) := by decide +kernel
theorem dX6_stepAll_38 : decode cX6_stepAll 38 = .ok (.getfield 90, 3) := by decide +kernel
theorem dX6_stepAll_41 : decode cX6_stepAll 41 = .ok (.iload_n 1, 1) := by decide +kernel
theorem dX6_stepAll_42 : decode cX6_stepAll 42 = .ok (.iconst (-1), 1) := by decide +kernel
theorem dX6_stepAll_43 : decode cX6_stepAll 43 = .ok (.iastore, 1) := by decide +kernel
theorem dX6_stepAll_44 : decode cX6_stepAll 44 = .ok (.aload_n 0, 1) := by decide +kernel
theorem dX6_stepAll_45 : decode cX6_stepAll 45 = .ok (.getfield 96, 3) := by decide +kernel
theorem dX6_stepAll_48 : decode cX6_stepAll 48 = .ok (.iload_n 1, 1) := by decide +kernel
theorem dX6_stepAll_49 : decode cX6_stepAll 49 = .ok (.iconst (-1), 1) := by decide +kernel
theorem dX6_stepAll_50 : decode cX6_stepAll 50 = .ok (.iastore, 1) := by decide +kernel
theorem dX6_stepAll_51 : decode cX6_stepAll 51 = .ok (.iinc 1 1, 3) := by decide +kernel
theorem dX6_stepAll_54 : decode cX6_stepAll 54 = .ok (.goto (-25), 3) := by decide +kernel
theorem dX6_stepAll_57 : decode cX6_stepAll 57 = .ok (.iconst 0, 1) := by decide +kernel
theorem dX6_stepAll_58 : decode cX6_stepAll 58 = .ok (.istore_n 1, 1) := by decide +kernel
theorem dX6_stepAll_59 : decode cX6_stepAll 59 = .ok (.iload_n 1, 1) := by decide +kernel
theorem dX6_stepAll_60 : decode cX6_stepAll 60 = .ok (.sipush 5000, 3) := by decide +kernel
theorem dX6_stepAll_63 : decode cX6_stepAll 63 = .ok (.if_icmp .gt 14, 3) := by decide +kernel
theorem dX6_stepAll_66 : decode cX6_stepAll 66 = .ok (.aload_n 0, 1) := by decide +kernel
theorem dX6_stepAll_67 : decode cX6_stepAll 67 = .ok (.iload_n 1, 1) := by decide +kernel
theorem dX6_stepAll_68 : decode cX6_stepAll 68 = .ok (.invokevirtual 168, 3) := by decide +kernel
theorem dX6_stepAll_71 : decode cX6_stepAll 71 = .ok (.iinc 1 1, 3) := by decide +kernel
theorem dX6_stepAll_74 : decode cX6_stepAll 74 = .ok (.goto (-15), 3) := by decide +kernel
theorem dX6_stepAll_77 : decode cX6_stepAll 77 = .ok (.return_, 1) := by decide +kernel
theorem dX6_out_0 : decode cX6_out 0 = .ok (.iload_n 1, 1) := by decide +kernel
theorem dX6_out_1 : decode cX6_out 1 = .ok (.iconst 0, 1) := by decide +kernel
theorem dX6_out_2 : decode cX6_out 2 = .ok (.aload_n 0, 1) := by decide +kernel
theorem dX6_out_3 : decode cX6_out 3 = .ok (.getfield 161, 3) := by decide +kernel
theorem dX6_out_6 : decode cX6_out 6 = .ok (.iconst 1, 1) := by decide +kernel
theorem dX6_out_7 : decode cX6_out 7 = .ok (.isub, 1) := by decide +kernel
theorem dX6_out_8 : decode cX6_out 8 = .ok (.invokestatic 108, 3) := by decide +kernel
theorem dX6_out_11 : decode cX6_out 11 = .ok (.ifCond .ne 6, 3) := by decide +kernel
theorem dX6_out_14 : decode cX6_out 14 = .ok (.bipush (-2), 2) := by decide +kernel
theorem dX6_out_16 : decode cX6_out 16 = .ok (.ireturn, 1) := by decide +kernel
theorem dX6_out_17 : decode cX6_out 17 = .ok (.aload_n 0, 1) := by decide +kernel
theorem dX6_out_18 : decode cX6_out 18 = .ok (.invokevirtual 172, 3) := by decide +kernel
theorem dX6_out_21 : decode cX6_out 21 = .ok (.aload_n 0, 1) := by decide +kernel
theorem dX6_out_22 : decode cX6_out 22 = .ok (.getfield 96, 3) := by decide +kernel
theorem dX6_out_25 : decode cX6_out 25 = .ok (.iload_n 1, 1) := by decide +kernel
theorem dX6_out_26 : decode cX6_out 26 = .ok (.iaload, 1) := by decide +kernel
theorem dX6_out_27 : decode cX6_out 27 = .ok (.ireturn, 1) := by decide +kernel
theorem dX6_most_0 : decode cX6_most 0 = .ok (.iload_n 1, 1) := by decide +kernel
theorem dX6_most_1 : decode cX6_most 1 = .ok (.iconst 0, 1) := by decide +kernel
theorem dX6_most_2 : decode cX6_most 2 = .ok (.iconst 3, 1) := by decide +kernel
theorem dX6_most_3 : decode cX6_most 3 = .ok (.invokestatic 108, 3) := by decide +kernel
theorem dX6_most_6 : decode cX6_most 6 = .ok (.ifCond .ne 6, 3) := by decide +kernel
theorem dX6_most_9 : decode cX6_most 9 = .ok (.bipush (-2), 2) := by decide +kernel
theorem dX6_most_11 : decode cX6_most 11 = .ok (.ireturn, 1) := by decide +kernel
theorem dX6_most_12 : decode cX6_most 12 = .ok (.aload_n 0, 1) := by decide +kernel
theorem dX6_most_13 : decode cX6_most 13 = .ok (.invokevirtual 172, 3) := by decide +kernel
theorem dX6_most_16 : decode cX6_most 16 = .ok (.aload_n 0, 1) := by decide +kernel
theorem dX6_most_17 : decode cX6_most 17 = .ok (.getfield 102, 3) := by decide +kernel
theorem dX6_most_20 : decode cX6_most 20 = .ok (.iload_n 1, 1) := by decide +kernel
theorem dX6_most_21 : decode cX6_most 21 = .ok (.iaload, 1) := by decide +kernel
theorem dX6_most_22 : decode cX6_most 22 = .ok (.ireturn, 1) := by decide +kernel
theorem dX6_heat_0 : decode cX6_heat 0 = .ok (.aload_n 0, 1) := by decide +kernel
theorem dX6_heat_1 : decode cX6_heat 1 = .ok (.iload_n 1, 1) := by decide +kernel
theorem dX6_heat_2 : decode cX6_heat 2 = .ok (.invokevirtual 112, 3) := by decide +kernel
theorem dX6_heat_5 : decode cX6_heat 5 = .ok (.ifCond .eq 23, 3) := by decide +kernel
theorem dX6_heat_8 : decode cX6_heat 8 = .ok (.iload_n 2, 1) := by decide +kernel
theorem dX6_heat_9 : decode cX6_heat 9 = .ok (.iconst 0, 1) := by decide +kernel
theorem dX6_heat_10 : decode cX6_heat 10 = .ok (.bipush 60, 2) := by decide +kernel
theorem dX6_heat_12 : decode cX6_heat 12 = .ok (.invokestatic 108, 3) := by decide +kernel
theorem dX6_heat_15 : decode cX6_heat 15 = .ok (.ifCond .eq 13, 3) := by decide +kernel
theorem dX6_heat_18 : decode cX6_heat 18 = .ok (.iload_n 3, 1) := by decide +kernel
theorem dX6_heat_19 : decode cX6_heat 19 = .ok (.iconst 1, 1) := by decide +kernel
theorem dX6_heat_20 : decode cX6_heat 20 = .ok (.bipush 50, 2) := by decide +kernel
theorem dX6_heat_22 : decode cX6_heat 22 = .ok (.invokestatic 108, 3) := by decide +kernel
theorem dX6_heat_25 : decode cX6_heat 25 = .ok (.ifCond .ne 6, 3) := by decide +kernel
theorem dX6_heat_28 : decode cX6_heat 28 = .ok (.bipush (-2), 2) := by decide +kernel
theorem dX6_heat_30 : decode cX6_heat 30 = .ok (.ireturn, 1) := by decide +kernel
theorem dX6_heat_31 : decode cX6_heat 31 = .ok (.iconst 0, 1) := by decide +kernel
theorem dX6_heat_32 : decode cX6_heat 32 = .ok (.istore 4, 2) := by decide +kernel
theorem dX6_heat_34 : decode cX6_heat 34 = .ok (.iload 4, 2) := by decide +kernel
theorem dX6_heat_36 : decode cX6_heat 36 = .ok (.iload_n 3, 1) := by decide +kernel
theorem dX6_heat_37 : decode cX6_heat 37 = .ok (.if_icmp .ge 65, 3) := by decide +kernel
theorem dX6_heat_40 : decode cX6_heat 40 = .ok (.aload_n 0, 1) := by decide +kernel
theorem dX6_heat_41 : decode cX6_heat 41 = .ok (.getfield 25, 3) := by decide +kernel
theorem dX6_heat_44 : decode cX6_heat 44 = .ok (.iload_n 1, 1) := by decide +kernel
theorem dX6_heat_45 : decode cX6_heat 45 = .ok (.dup2, 1) := by decide +kernel
theorem dX6_heat_46 : decode cX6_heat 46 = .ok (.iaload, 1) := by decide +kernel
theorem dX6_heat_47 : decode cX6_heat 47 = .ok (.iload_n 2, 1) := by decide +kernel
theorem dX6_heat_48 : decode cX6_heat 48 = .ok (.bipush 30, 2) := by decide +kernel
theorem dX6_heat_50 : decode cX6_heat 50 = .ok (.if_icmp .le 10, 3) := by decide +kernel
theorem dX6_heat_53 : decode cX6_heat 53 = .ok (.iload_n 2, 1) := by decide +kernel
theorem dX6_heat_54 : decode cX6_heat 54 = .ok (.bipush 30, 2) := by decide +kernel
theorem dX6_heat_56 : decode cX6_heat 56 = .ok (.isub, 1) := by decide +kernel
theorem dX6_heat_57 : decode cX6_heat 57 = .ok (.goto 4, 3) := by decide +kernel
theorem dX6_heat_60 : decode cX6_heat 60 = .ok (.iconst 0, 1) := by decide +kernel
theorem dX6_heat_61 : decode cX6_heat 61 = .ok (.iadd, 1) := by decide +kernel
theorem dX6_heat_62 : decode cX6_heat 62 = .ok (.iastore, 1) := by decide +kernel
theorem dX6_heat_63 : decode cX6_heat 63 = .ok (.aload_n 0, 1) := by decide +kernel
theorem dX6_heat_64 : decode cX6_heat 64 = .ok (.getfield 22, 3) := by decide +kernel
theorem dX6_heat_67 : decode cX6_heat 67 = .ok (.iload_n 1, 1) := by decide +kernel
theorem dX6_heat_68 : decode cX6_heat 68 = .ok (.iaload, 1) := by decide +kernel
theorem dX6_heat_69 : decode cX6_heat 69 = .ok (.iload_n 2, 1) := by decide +kernel
theorem dX6_heat_70 : decode cX6_heat 70 = .ok (.bipush 20, 2) := by decide +kernel
theorem dX6_heat_72 : decode cX6_heat 72 = .ok (.idiv, 1) := by decide +kernel
theorem dX6_heat_73 : decode cX6_heat 73 = .ok (.isub, 1) := by decide +kernel
theorem dX6_heat_74 : decode cX6_heat 74 = .ok (.istore 5, 2) := by decide +kernel
theorem dX6_heat_76 : decode cX6_heat 76 = .ok (.aload_n 0, 1) := by decide +kernel
theorem dX6_heat_77 : decode cX6_heat 77 = .ok (.getfield 22, 3) := by decide +kernel
theorem dX6_heat_80 : decode cX6_heat 80 = .ok (.iload_n 1, 1) := by decide +kernel
theorem dX6_heat_81 : decode cX6_heat 81 = .ok (.iload 5, 2) := by decide +kernel
theorem dX6_heat_83 : decode cX6_heat 83 = .ok (.bipush 100, 2) := by decide +kernel
theorem dX6_heat_85 : decode cX6_heat 85 = .ok (.if_icmp .ge 8, 3) := by decide +kernel
theorem dX6_heat_88 : decode cX6_heat 88 = .ok (.bipush 100, 2) := by decide +kernel
theorem dX6_heat_90 : decode cX6_heat 90 = .ok (.goto 5, 3) := by decide +kernel
theorem dX6_heat_93 : decode cX6_heat 93 = .ok (.iload 5, 2) := by decide +kernel
theorem dX6_heat_95 : decode cX6_heat 95 = .ok (.iastore, 1) := by decide +kernel
theorem dX6_heat_96 : decode cX6_heat 96 = .ok (.iinc 4 1, 3) := by decide +kernel
theorem dX6_heat_99 : decode cX6_heat 99 = .ok (.goto (-65), 3) := by decide +kernel
theorem dX6_heat_102 : decode cX6_heat 102 = .ok (.aload_n 0, 1) := by decide +kernel
theorem dX6_heat_103 : decode cX6_heat 103 = .ok (.getfield 25, 3) := by decide +kernel
theorem dX6_heat_106 : decode cX6_heat 106 = .ok (.iload_n 1, 1) := by decide +kernel
theorem dX6_heat_107 : decode cX6_heat 107 = .ok (.iaload, 1) := by decide +kernel
theorem dX6_heat_108 : decode cX6_heat 108 = .ok (.ireturn, 1) := by decide +kernel
theorem dX6_touch_0 : decode cX6_touch 0 = .ok (.aload_n 0, 1) := by decide +kernel
theorem dX6_touch_1 : decode cX6_touch 1 = .ok (.iload_n 1, 1) := by decide +kernel
theorem dX6_touch_2 : decode cX6_touch 2 = .ok (.invokevirtual 112, 3) := by decide +kernel
theorem dX6_touch_5 : decode cX6_touch 5 = .ok (.ifCond .eq 13, 3) := by decide +kernel
theorem dX6_touch_8 : decode cX6_touch 8 = .ok (.iload_n 2, 1) := by decide +kernel
theorem dX6_touch_9 : decode cX6_touch 9 = .ok (.iconst 0, 1) := by decide +kernel
theorem dX6_touch_10 : decode cX6_touch 10 = .ok (.bipush 50, 2) := by decide +kernel
theorem dX6_touch_12 : decode cX6_touch 12 = .ok (.invokestatic 108, 3) := by decide +kernel
theorem dX6_touch_15 : decode cX6_touch 15 = .ok (.ifCond .ne 6, 3) := by decide +kernel
theorem dX6_touch_18 : decode cX6_touch 18 = .ok (.bipush (-2), 2) := by decide +kernel
theorem dX6_touch_20 : decode cX6_touch 20 = .ok (.ireturn, 1) := by decide +kernel
theorem dX6_touch_21 : decode cX6_touch 21 = .ok (.aload_n 0, 1) := by decide +kernel
theorem dX6_touch_22 : decode cX6_touch 22 = .ok (.getfield 28, 3) := by decide +kernel
theorem dX6_touch_25 : decode cX6_touch 25 = .ok (.iload_n 1, 1) := by decide +kernel
theorem dX6_touch_26 : decode cX6_touch 26 = .ok (.aload_n 0, 1) := by decide +kernel
theorem dX6_touch_27 : decode cX6_touch 27 = .ok (.getfield 28, 3) := by decide +kernel
theorem dX6_touch_30 : decode cX6_touch 30 = .ok (.iload_n 1, 1) := by decide +kernel
theorem dX6_touch_31 : decode cX6_touch 31 = .ok (.iaload, 1) := by decide +kernel
theorem dX6_touch_32 : decode cX6_touch 32 = .ok (.iload_n 2, 1) := by decide +kernel
theorem dX6_touch_33 : decode cX6_touch 33 = .ok (.iadd, 1) := by decide +kernel
theorem dX6_touch_34 : decode cX6_touch 34 = .ok (.sipush 1000, 3) := by decide +kernel
theorem dX6_touch_37 : decode cX6_touch 37 = .ok (.if_icmp .le 9, 3) := by decide +kernel
theorem dX6_touch_40 : decode cX6_touch 40 = .ok (.sipush 1000, 3) := by decide +kernel
theorem dX6_touch_43 : decode cX6_touch 43 = .ok (.goto 11, 3) := by decide +kernel
theorem dX6_touch_46 : decode cX6_touch 46 = .ok (.aload_n 0, 1) := by decide +kernel
theorem dX6_touch_47 : decode cX6_touch 47 = .ok (.getfield 28, 3) := by decide +kernel
theorem dX6_touch_50 : decode cX6_touch 50 = .ok (.iload_n 1, 1) := by decide +kernel
theorem dX6_touch_51 : decode cX6_touch 51 = .ok (.iaload, 1) := by decide +kernel
theorem dX6_touch_52 : decode cX6_touch 52 = .ok (.iload_n 2, 1) := by decide +kernel
theorem dX6_touch_53 : decode cX6_touch 53 = .ok (.iadd, 1) := by decide +kernel
theorem dX6_touch_54 : decode cX6_touch 54 = .ok (.iastore, 1) := by decide +kernel
theorem dX6_touch_55 : decode cX6_touch 55 = .ok (.aload_n 0, 1) := by decide +kernel
theorem dX6_touch_56 : decode cX6_touch 56 = .ok (.getfield 28, 3) := by decide +kernel
theorem dX6_touch_59 : decode cX6_touch 59 = .ok (.iload_n 1, 1) := by decide +kernel
theorem dX6_touch_60 : decode cX6_touch 60 = .ok (.iaload, 1) := by decide +kernel
theorem dX6_touch_61 : decode cX6_touch 61 = .ok (.ireturn, 1) := by decide +kernel
theorem dX6_isDue_0 : decode cX6_isDue 0 = .ok (.aload_n 0, 1) := by decide +kernel
theorem dX6_isDue_1 : decode cX6_isDue 1 = .ok (.getfield 25, 3) := by decide +kernel
theorem dX6_isDue_4 : decode cX6_isDue 4 = .ok (.iload_n 1, 1) := by decide +kernel
theorem dX6_isDue_5 : decode cX6_isDue 5 = .ok (.iaload, 1) := by decide +kernel
theorem dX6_isDue_6 : decode cX6_isDue 6 = .ok (.bipush 50, 2) := by decide +kernel
theorem dX6_isDue_8 : decode cX6_isDue 8 = .ok (.if_icmp .ge 14, 3) := by decide +kernel
theorem dX6_isDue_11 : decode cX6_isDue 11 = .ok (.aload_n 0, 1) := by decide +kernel
theorem dX6_isDue_12 : decode cX6_isDue 12 = .ok (.getfield 28, 3) := by decide +kernel
theorem dX6_isDue_15 : decode cX6_isDue 15 = .ok (.iload_n 1, 1) := by decide +kernel
theorem dX6_isDue_16 : decode cX6_isDue 16 = .ok (.iaload, 1) := by decide +kernel
theorem dX6_isDue_17 : decode cX6_isDue 17 = .ok (.bipush 20, 2) := by decide +kernel
theorem dX6_isDue_19 : decode cX6_isDue 19 = .ok (.if_icmp .lt 7, 3) := by decide +kernel
theorem dX6_isDue_22 : decode cX6_isDue 22 = .ok (.iconst 1, 1) := by decide +kernel
theorem dX6_isDue_23 : decode cX6_isDue 23 = .ok (.goto 4, 3) := by decide +kernel
theorem dX6_isDue_26 : decode cX6_isDue 26 = .ok (.iconst 0, 1) := by decide +kernel
theorem dX6_isDue_27 : decode cX6_isDue 27 = .ok (.ireturn, 1) := by decide +kernel
theorem dX6_repair_0 : decode cX6_repair 0 = .ok (.aload_n 0, 1) := by decide +kernel
theorem dX6_repair_1 : decode cX6_repair 1 = .ok (.iload_n 1, 1) := by decide +kernel
theorem dX6_repair_2 : decode cX6_repair 2 = .ok (.invokevirtual 112, 3) := by decide +kernel
theorem dX6_repair_5 : decode cX6_repair 5 = .ok (.ifCond .ne 6, 3) := by decide +kernel
theorem dX6_repair_8 : decode cX6_repair 8 = .ok (.bipush (-2), 2) := by decide +kernel
theorem dX6_repair_10 : decode cX6_repair 10 = .ok (.ireturn, 1) := by decide +kernel
theorem dX6_repair_11 : decode cX6_repair 11 = .ok (.aload_n 0, 1) := by decide +kernel
theorem dX6_repair_12 : decode cX6_repair 12 = .ok (.iload_n 1, 1) := by decide +kernel
theorem dX6_repair_13 : decode cX6_repair 13 = .ok (.invokevirtual 175, 3) := by decide +kernel
theorem dX6_repair_16 : decode cX6_repair 16 = .ok (.ifCond .ne 6, 3) := by decide +kernel
theorem dX6_repair_19 : decode cX6_repair 19 = .ok (.bipush (-3), 2) := by decide +kernel
theorem dX6_repair_21 : decode cX6_repair 21 = .ok (.ireturn, 1) := by decide +kernel
theorem dX6_repair_22 : decode cX6_repair 22 = .ok (.aload_n 0, 1) := by decide +kernel
theorem dX6_repair_23 : decode cX6_repair 23 = .ok (.getfield 22, 3) := by decide +kernel
theorem dX6_repair_26 : decode cX6_repair 26 = .ok (.iload_n 1, 1) := by decide +kernel
theorem dX6_repair_27 : decode cX6_repair 27 = .ok (.dup2, 1) := by decide +kernel
theorem dX6_repair_28 : decode cX6_repair 28 = .ok (.iaload, 1) := by decide +kernel
theorem dX6_repair_29 : decode cX6_repair 29 = .ok (.aload_n 0, 1) := by decide +kernel
theorem dX6_repair_30 : decode cX6_repair 30 = .ok (.getfield 25, 3) := by decide +kernel
theorem dX6_repair_33 : decode cX6_repair 33 = .ok (.iload_n 1, 1) := by decide +kernel
theorem dX6_repair_34 : decode cX6_repair 34 = .ok (.iaload, 1) := by decide +kernel
theorem dX6_repair_35 : decode cX6_repair 35 = .ok (.bipush 10, 2) := by decide +kernel
theorem dX6_repair_37 : decode cX6_repair 37 = .ok (.idiv, 1) := by decide +kernel
theorem dX6_repair_38 : decode cX6_repair 38 = .ok (.iadd, 1) := by decide +kernel
theorem dX6_repair_39 : decode cX6_repair 39 = .ok (.iastore, 1) := by decide +kernel
theorem dX6_repair_40 : decode cX6_repair 40 = .ok (.aload_n 0, 1) := by decide +kernel
theorem dX6_repair_41 : decode cX6_repair 41 = .ok (.getfield 25, 3) := by decide +kernel
theorem dX6_repair_44 : decode cX6_repair 44 = .ok (.iload_n 1, 1) := by decide +kernel
theorem dX6_repair_45 : decode cX6_repair 45 = .ok (.iconst 0, 1) := by decide +kernel
theorem dX6_repair_46 : decode cX6_repair 46 = .ok (.iastore, 1) := by decide +kernel
theorem dX6_repair_47 : decode cX6_repair 47 = .ok (.aload_n 0, 1) := by decide +kernel
theorem dX6_repair_48 : decode cX6_repair 48 = .ok (.getfield 28, 3) := by decide +kernel
theorem dX6_repair_51 : decode cX6_repair 51 = .ok (.iload_n 1, 1) := by decide +kernel
theorem dX6_repair_52 : decode cX6_repair 52 = .ok (.iconst 0, 1) := by decide +kernel
theorem dX6_repair_53 : decode cX6_repair 53 = .ok (.iastore, 1) := by decide +kernel
theorem dX6_repair_54 : decode cX6_repair 54 = .ok (.aload_n 0, 1) := by decide +kernel
theorem dX6_repair_55 : decode cX6_repair 55 = .ok (.dup, 1) := by decide +kernel
theorem dX6_repair_56 : decode cX6_repair 56 = .ok (.getfield 178, 3) := by decide +kernel
theorem dX6_repair_59 : decode cX6_repair 59 = .ok (.iconst 1, 1) := by decide +kernel
theorem dX6_repair_60 : decode cX6_repair 60 = .ok (.iadd, 1) := by decide +kernel
theorem dX6_repair_61 : decode cX6_repair 61 = .ok (.putfield 178, 3) := by decide +kernel
theorem dX6_repair_64 : decode cX6_repair 64 = .ok (.aload_n 0, 1) := by decide +kernel
theorem dX6_repair_65 : decode cX6_repair 65 = .ok (.getfield 22, 3) := by decide +kernel
theorem dX6_repair_68 : decode cX6_repair 68 = .ok (.iload_n 1, 1) := by decide +kernel
theorem dX6_repair_69 : decode cX6_repair 69 = .ok (.iaload, 1) := by decide +kernel
theorem dX6_repair_70 : decode cX6_repair 70 = .ok (.ireturn, 1) := by decide +kernel
theorem dX6_due_0 : decode cX6_due 0 = .ok (.iconst 0, 1) := by decide +kernel
theorem dX6_due_1 : decode cX6_due 1 = .ok (.istore_n 1, 1) := by decide +kernel
theorem dX6_due_2 : decode cX6_due 2 = .ok (.iconst 0, 1) := by decide +kernel
theorem dX6_due_3 : decode cX6_due 3 = .ok (.istore_n 2, 1) := by decide +kernel
theorem dX6_due_4 : decode cX6_due 4 = .ok (.iload_n 2, 1) := by decide +kernel
theorem dX6_due_5 : decode cX6_due 5 = .ok (.aload_n 0, 1) := by decide +kernel
theorem dX6_due_6 : decode cX6_due 6 = .ok (.getfield 105, 3) := by decide +kernel
theorem dX6_due_9 : decode cX6_due 9 = .ok (.if_icmp .ge 27, 3) := by decide +kernel
theorem dX6_due_12 : decode cX6_due 12 = .ok (.iload_n 1, 1) := by decide +kernel
theorem dX6_due_13 : decode cX6_due 13 = .ok (.aload_n 0, 1) := by decide +kernel
theorem dX6_due_14 : decode cX6_due 14 = .ok (.iload_n 2, 1) := by decide +kernel
theorem dX6_due_15 : decode cX6_due 15 = .ok (.invokevirtual 175, 3) := by decide +kernel
theorem dX6_due_18 : decode cX6_due 18 = .ok (.ifCond .eq 9, 3) := by decide +kernel
theorem dX6_due_21 : decode cX6_due 21 = .ok (.iconst 1, 1) := by decide +kernel
theorem dX6_due_22 : decode cX6_due 22 = .ok (.iload_n 2, 1) := by decide +kernel
theorem dX6_due_23 : decode cX6_due 23 = .ok (.ishl, 1) := by decide +kernel
theorem dX6_due_24 : decode cX6_due 24 = .ok (.goto 4, 3) := by decide +kernel
theorem dX6_due_27 : decode cX6_due 27 = .ok (.iconst 0, 1) := by decide +kernel
theorem dX6_due_28 : decode cX6_due 28 = .ok (.ior, 1) := by decide +kernel
theorem dX6_due_29 : decode cX6_due 29 = .ok (.istore_n 1, 1) := by decide +kernel
theorem dX6_due_30 : decode cX6_due 30 = .ok (.iinc 2 1, 3) := by decide +kernel
theorem dX6_due_33 : decode cX6_due 33 = .ok (.goto (-29), 3) := by decide +kernel
theorem dX6_due_36 : decode cX6_due 36 = .ok (.iload_n 1, 1) := by decide +kernel
theorem dX6_due_37 : decode cX6_due 37 = .ok (.ireturn, 1) := by decide +kernel
theorem dX6_isNumber_0 : decode cX6_isNumber 0 = .ok (.iload_n 0, 1) := by decide +kernel
theorem dX6_isNumber_1 : decode cX6_isNumber 1 = .ok (.iconst 0, 1) := by decide +kernel
theorem dX6_isNumber_2 : decode cX6_isNumber 2 = .ok (.sipush 3000, 3) := by decide +kernel
theorem dX6_isNumber_5 : decode cX6_isNumber 5 = .ok (.invokestatic 108, 3) := by decide +kernel
theorem dX6_isNumber_8 : decode cX6_isNumber 8 = .ok (.ireturn, 1) := by decide +kernel
theorem dX6_nearest_0 : decode cX6_nearest 0 = .ok (.iconst (-1), 1) := by decide +kernel
theorem dX6_nearest_1 : decode cX6_nearest 1 = .ok (.istore 5, 2) := by decide +kernel
theorem dX6_nearest_3 : decode cX6_nearest 3 = .ok (.ldc 149, 2) := by decide +kernel
theorem dX6_nearest_5 : decode cX6_nearest 5 = .ok (.istore 6, 2) := by decide +kernel
theorem dX6_nearest_7 : decode cX6_nearest 7 = .ok (.iconst 0, 1) := by decide +kernel
theorem dX6_nearest_8 : decode cX6_nearest 8 = .ok (.istore 7, 2) := by decide +kernel
theorem dX6_nearest_10 : decode cX6_nearest 10 = .ok (.iload 7, 2) := by decide +kernel
theorem dX6_nearest_12 : decode cX6_nearest 12 = .ok (.aload_n 0, 1) := by decide +kernel
theorem dX6_nearest_13 : decode cX6_nearest 13 = .ok (.getfield 105, 3) := by decide +kernel
theorem dX6_nearest_16 : decode cX6_nearest 16 = .ok (.if_icmp .ge 153, 3) := by decide +kernel
theorem dX6_nearest_19 : decode cX6_nearest 19 = .ok (.iconst 0, 1) := by decide +kernel
theorem dX6_nearest_20 : decode cX6_nearest 20 = .ok (.istore 8, 2) := by decide +kernel
theorem dX6_nearest_22 : decode cX6_nearest 22 = .ok (.iconst 1, 1) := by decide +kernel
theorem dX6_nearest_23 : decode cX6_nearest 23 = .ok (.istore 9, 2) := by decide +kernel
theorem dX6_nearest_25 : decode cX6_nearest 25 = .ok (.iconst 0, 1) := by decide +kernel
theorem dX6_nearest_26 : decode cX6_nearest 26 = .ok (.istore 10, 2) := by decide +kernel
theorem dX6_nearest_28 : decode cX6_nearest 28 = .ok (.iload 10, 2) := by decide +kernel
theorem dX6_nearest_30 : decode cX6_nearest 30 = .ok (.iconst 4, 1) := by decide +kernel
theorem dX6_nearest_31 : decode cX6_nearest 31 = .ok (.if_icmp .ge 112, 3) := by decide +kernel
theorem dX6_nearest_34 : decode cX6_nearest 34 = .ok (.iload 10, 2) := by decide +kernel
theorem dX6_nearest_36 : decode cX6_nearest 36 = .ok (.ifCond .ne 7, 3) := by decide +kernel
theorem dX6_nearest_39 : decode cX6_nearest 39 = .ok (.iload_n 1, 1) := by decide +kernel
theorem dX6_nearest_40 : decode cX6_nearest 40 = .ok (.goto 25, 3) := by decide +kernel
theorem dX6_nearest_43 : decode cX6_nearest 43 = .ok (.iload 10, 2) := by decide +kernel
theorem dX6_nearest_45 : decode cX6_nearest 45 = .ok (.iconst 1, 1) := by decide +kernel
theorem dX6_nearest_46 : decode cX6_nearest 46 = .ok (.if_icmp .ne 7, 3) := by decide +kernel
theorem dX6_nearest_49 : decode cX6_nearest 49 = .ok (.iload_n 2, 1) := by decide +kernel
theorem dX6_nearest_50 : decode cX6_nearest 50 = .ok (.goto 15, 3) := by decide +kernel
theorem dX6_nearest_53 : decode cX6_nearest 53 = .ok (.iload 10, 2) := by decide +kernel
theorem dX6_nearest_55 : decode cX6_nearest 55 = .ok (.iconst 2, 1) := by decide +kernel
theorem dX6_nearest_56 : decode cX6_nearest 56 = .ok (.if_icmp .ne 7, 3) := by decide +kernel
theorem dX6_nearest_59 : decode cX6_nearest 59 = .ok (.iload_n 3, 1) := by decide +kernel
theorem dX6_nearest_60 : decode cX6_nearest 60 = .ok (.goto 5, 3) := by decide +kernel
theorem dX6_nearest_63 : decode cX6_nearest 63 = .ok (.iload 4, 2) := by decide +kernel
theorem dX6_nearest_65 : decode cX6_nearest 65 = .ok (.istore 11, 2) := by decide +kernel
theorem dX6_nearest_67 : decode cX6_nearest 67 = .ok (.aload_n 0, 1) := by decide +kernel
theorem dX6_nearest_68 : decode cX6_nearest 68 = .ok (.getfield 37, 3) := by decide +kernel
theorem dX6_nearest_71 : decode cX6_nearest 71 = .ok (.iconst 4, 1) := by decide +kernel
theorem dX6_nearest_72 : decode cX6_nearest 72 = .ok (.iload 7, 2) := by decide +kernel
theorem dX6_nearest_74 : decode cX6_nearest 74 = .ok (.imul, 1) := by decide +kernel
theorem dX6_nearest_75 : decode cX6_nearest 75 = .ok (.iload 10, 2) := by decide +kernel
theorem dX6_nearest_77 : decode cX6_nearest 77 = .ok (.iadd, 1) := by decide +kernel
theorem dX6_nearest_78 : decode cX6_nearest 78 = .ok (.iaload, 1) := by decide +kernel
theorem dX6_nearest_79 : decode cX6_nearest 79 = .ok (.aload_n 0, 1) := by decide +kernel
theorem dX6_nearest_80 : decode cX6_nearest 80 = .ok (.getfield 40, 3) := by decide +kernel
theorem dX6_nearest_83 : decode cX6_nearest 83 = .ok (.iconst 4, 1) := by decide +kernel
theorem dX6_nearest_84 : decode cX6_nearest 84 = .ok (.iload 7, 2) := by decide +kernel
theorem dX6_nearest_86 : decode cX6_nearest 86 = .ok (.imul, 1) := by decide +kernel
theorem dX6_nearest_87 : decode cX6_nearest 87 = .ok (.iload 10, 2) := by decide +kernel
theorem dX6_nearest_89 : decode cX6_nearest 89 = .ok (.iadd, 1) := by decide +kernel
theorem dX6_nearest_90 : decode cX6_nearest 90 = .ok (.iaload, 1) := by decide +kernel
theorem dX6_nearest_91 : decode cX6_nearest 91 = .ok (.iadd, 1) := by decide +kernel
theorem dX6_nearest_92 : decode cX6_nearest 92 = .ok (.iconst 2, 1) := by decide +kernel
theorem dX6_nearest_93 : decode cX6_nearest 93 = .ok (.idiv, 1) := by decide +kernel
theorem dX6_nearest_94 : decode cX6_nearest 94 = .ok (.iload 11, 2) := by decide +kernel
theorem dX6_nearest_96 : decode cX6_nearest 96 = .ok (.isub, 1) := by decide +kernel
theorem dX6_nearest_97 : decode cX6_nearest 97 = .ok (.istore 12, 2) := by decide +kernel
theorem dX6_nearest_99 : decode cX6_nearest 99 = .ok (.iload 8, 2) := by decide +kernel
theorem dX6_nearest_101 : decode cX6_nearest 101 = .ok (.iload 12, 2) := by decide +kernel
theorem dX6_nearest_103 : decode cX6_nearest 103 = .ok (.iload 12, 2) := by decide +kernel
theorem dX6_nearest_105 : decode cX6_nearest 105 = .ok (.imul, 1) := by decide +kernel
theorem dX6_nearest_106 : decode cX6_nearest 106 = .ok (.iadd, 1) := by decide +kernel
theorem dX6_nearest_107 : decode cX6_nearest 107 = .ok (.istore 8, 2) := by decide +kernel
theorem dX6_nearest_109 : decode cX6_nearest 109 = .ok (.iload 9, 2) := by decide +kernel
theorem dX6_nearest_111 : decode cX6_nearest 111 = .ok (.ifCond .eq 23, 3) := by decide +kernel
theorem dX6_nearest_114 : decode cX6_nearest 114 = .ok (.aload_n 0, 1) := by decide +kernel
theorem dX6_nearest_115 : decode cX6_nearest 115 = .ok (.getfield 43, 3) := by decide +kernel
theorem dX6_nearest_118 : decode cX6_nearest 118 = .ok (.iconst 4, 1) := by decide +kernel
theorem dX6_nearest_119 : decode cX6_nearest 119 = .ok (.iload 7, 2) := by decide +kernel
theorem dX6_nearest_121 : decode cX6_nearest 121 = .ok (.imul, 1) := by decide +kernel
theorem dX6_nearest_122 : decode cX6_nearest 122 = .ok (.iload 10, 2) := by decide +kernel
theorem dX6_nearest_124 : decode cX6_nearest 124 = .ok (.iadd, 1) := by decide +kernel
theorem dX6_nearest_125 : decode cX6_nearest 125 = .ok (.iaload, 1) := by decide +kernel
theorem dX6_nearest_126 : decode cX6_nearest 126 = .ok (.iconst (-1), 1) := by decide +kernel
theorem dX6_nearest_127 : decode cX6_nearest 127 = .ok (.if_icmp .ne 7, 3) := by decide +kernel
theorem dX6_nearest_130 : decode cX6_nearest 130 = .ok (.iconst 1, 1) := by decide +kernel
theorem dX6_nearest_131 : decode cX6_nearest 131 = .ok (.goto 4, 3) := by decide +kernel
theorem dX6_nearest_134 : decode cX6_nearest 134 = .ok (.iconst 0, 1) := by decide +kernel
theorem dX6_nearest_135 : decode cX6_nearest 135 = .ok (.istore 9, 2) := by decide +kernel
theorem dX6_nearest_137 : decode cX6_nearest 137 = .ok (.iinc 10 1, 3) := by decide +kernel
theorem dX6_nearest_140 : decode cX6_nearest 140 = .ok (.goto (-112), 3) := by decide +kernel
theorem dX6_nearest_143 : decode cX6_nearest 143 = .ok (.iload 9, 2) := by decide +kernel
theorem dX6_nearest_145 : decode cX6_nearest 145 = .ok (.ifCond .eq 18, 3) := by decide +kernel
theorem dX6_nearest_148 : decode cX6_nearest 148 = .ok (.iload 8, 2) := by decide +kernel
theorem dX6_nearest_150 : decode cX6_nearest 150 = .ok (.iload 6, 2) := by decide +kernel
theorem dX6_nearest_152 : decode cX6_nearest 152 = .ok (.if_icmp .ge 11, 3) := by decide +kernel
theorem dX6_nearest_155 : decode cX6_nearest 155 = .ok (.iload 8, 2) := by decide +kernel
theorem dX6_nearest_157 : decode cX6_nearest 157 = .ok (.istore 6, 2) := by decide +kernel
theorem dX6_nearest_159 : decode cX6_nearest 159 = .ok (.iload 7, 2) := by decide +kernel
theorem dX6_nearest_161 : decode cX6_nearest 161 = .ok (.istore 5, 2) := by decide +kernel
theorem dX6_nearest_163 : decode cX6_nearest 163 = .ok (.iinc 7 1, 3) := by decide +kernel
theorem dX6_nearest_166 : decode cX6_nearest 166 = .ok (.goto (-156), 3) := by decide +kernel
theorem dX6_nearest_169 : decode cX6_nearest 169 = .ok (.iload 5, 2) := by decide +kernel
theorem dX6_nearest_171 : decode cX6_nearest 171 = .ok (.ireturn, 1) := by decide +kernel
theorem dX6_tell_0 : decode cX6_tell 0 = .ok (.iload_n 1, 1) := by decide +kernel
theorem dX6_tell_1 : decode cX6_tell 1 = .ok (.invokestatic 181, 3) := by decide +kernel
theorem dX6_tell_4 : decode cX6_tell 4 = .ok (.ifCond .eq 37, 3) := by decide +kernel
theorem dX6_tell_7 : decode cX6_tell 7 = .ok (.iload_n 2, 1) := by decide +kernel
theorem dX6_tell_8 : decode cX6_tell 8 = .ok (.invokestatic 181, 3) := by decide +kernel
theorem dX6_tell_11 : decode cX6_tell 11 = .ok (.ifCond .eq 30, 3) := by decide +kernel
theorem dX6_tell_14 : decode cX6_tell 14 = .ok (.iload_n 3, 1) := by decide +kernel
theorem dX6_tell_15 : decode cX6_tell 15 = .ok (.invokestatic 181, 3) := by decide +kernel
theorem dX6_tell_18 : decode cX6_tell 18 = .ok (.ifCond .eq 23, 3) := by decide +kernel
theorem dX6_tell_21 : decode cX6_tell 21 = .ok (.iload 4, 2) := by decide +kernel
theorem dX6_tell_23 : decode cX6_tell 23 = .ok (.invokestatic 181, 3) := by decide +kernel
theorem dX6_tell_26 : decode cX6_tell 26 = .ok (.ifCond .eq 15, 3) := by decide +kernel
theorem dX6_tell_29 : decode cX6_tell 29 = .ok (.aload_n 0, 1) := by decide +kernel
theorem dX6_tell_30 : decode cX6_tell 30 = .ok (.iload_n 1, 1) := by decide +kernel
theorem dX6_tell_31 : decode cX6_tell 31 = .ok (.iload_n 2, 1) := by decide +kernel
theorem dX6_tell_32 : decode cX6_tell 32 = .ok (.iload_n 3, 1) := by decide +kernel
theorem dX6_tell_33 : decode cX6_tell 33 = .ok (.iload 4, 2) := by decide +kernel
theorem dX6_tell_35 : decode cX6_tell 35 = .ok (.invokevirtual 184, 3) := by decide +kernel
theorem dX6_tell_38 : decode cX6_tell 38 = .ok (.goto 5, 3) := by decide +kernel
theorem dX6_tell_41 : decode cX6_tell 41 = .ok (.bipush (-2), 2) := by decide +kernel
theorem dX6_tell_43 : decode cX6_tell 43 = .ok (.ireturn, 1) := by decide +kernel
theorem dX6_likeness_0 : decode cX6_likeness 0 = .ok (.aload_n 0, 1) := by decide +kernel
theorem dX6_likeness_1 : decode cX6_likeness 1 = .ok (.iload_n 1, 1) := by decide +kernel
theorem dX6_likeness_2 : decode cX6_likeness 2 = .ok (.invokevirtual 112, 3) := by decide +kernel
theorem dX6_likeness_5 : decode cX6_likeness 5 = .ok (.ifCond .eq 33, 3) := by decide +kernel
theorem dX6_likeness_8 : decode cX6_likeness 8 = .ok (.iload_n 2, 1) := by decide +kernel
theorem dX6_likeness_9 : decode cX6_likeness 9 = .ok (.invokestatic 181, 3) := by decide +kernel
theorem dX6_likeness_12 : decode cX6_likeness 12 = .ok (.ifCond .eq 26, 3) := by decide +kernel
theorem dX6_likeness_15 : decode cX6_likeness 15 = .ok (.iload_n 3, 1) := by decide +kernel
theorem dX6_likeness_16 : decode cX6_likeness 16 = .ok (.invokestatic 181, 3) := by decide +kernel
theorem dX6_likeness_19 : decode cX6_likeness 19 = .ok (.ifCond .eq 19, 3) := by decide +kernel
theorem dX6_likeness_22 : decode cX6_likeness 22 = .ok (.iload 4, 2) := by decide +kernel
theorem dX6_likeness_24 : decode cX6_likeness 24 = .ok (.invokestatic 181, 3) := by decide +kernel
theorem dX6_likeness_27 : decode cX6_likeness 27 = .ok (.ifCond .eq 11, 3) := by decide +kernel
theorem dX6_likeness_30 : decode cX6_likeness 30 = .ok (.iload 5, 2) := by decide +kernel
theorem dX6_likeness_32 : decode cX6_likeness 32 = .ok (.invokestatic 181, 3) := by decide +kernel
theorem dX6_likeness_35 : decode cX6_likeness 35 = .ok (.ifCond .ne 6, 3) := by decide +kernel
theorem dX6_likeness_38 : decode cX6_likeness 38 = .ok (.bipush (-2), 2) := by decide +kernel
theorem dX6_likeness_40 : decode cX6_likeness 40 = .ok (.ireturn, 1) := by decide +kernel
theorem dX6_likeness_41 : decode cX6_likeness 41 = .ok (.aload_n 0, 1) := by decide +kernel
theorem dX6_likeness_42 : decode cX6_likeness 42 = .ok (.getfield 188, 3) := by decide +kernel
theorem dX6_likeness_45 : decode cX6_likeness 45 = .ok (.bipush 20, 2) := by decide +kernel
theorem dX6_likeness_47 : decode cX6_likeness 47 = .ok (.if_icmp .ne 6, 3) := by decide +kernel
theorem dX6_likeness_50 : decode cX6_likeness 50 = .ok (.bipush (-4), 2) := by decide +kernel
theorem dX6_likeness_52 : decode cX6_likeness 52 = .ok (.ireturn, 1) := by decide +kernel
theorem dX6_likeness_53 : decode cX6_likeness 53 = .ok (.aload_n 0, 1) := by decide +kernel
theorem dX6_likeness_54 : decode cX6_likeness 54 = .ok (.getfield 59, 3) := by decide +kernel
theorem dX6_likeness_57 : decode cX6_likeness 57 = .ok (.aload_n 0, 1) := by decide +kernel
theorem dX6_likeness_58 : decode cX6_likeness 58 = .ok (.getfield 188, 3) := by decide +kernel
theorem dX6_likeness_61 : decode cX6_likeness 61 = .ok (.iload_n 1, 1) := by decide +kernel
theorem dX6_likeness_62 : decode cX6_likeness 62 = .ok (.iastore, 1) := by decide +kernel
theorem dX6_likeness_63 : decode cX6_likeness 63 = .ok (.aload_n 0, 1) := by decide +kernel
theorem dX6_likeness_64 : decode cX6_likeness 64 = .ok (.getfield 62, 3) := by decide +kernel
theorem dX6_likeness_67 : decode cX6_likeness 67 = .ok (.iconst 4, 1) := by decide +kernel
theorem dX6_likeness_68 : decode cX6_likeness 68 = .ok (.aload_n 0, 1) := by decide +kernel
theorem dX6_likeness_69 : decode cX6_likeness 69 = .ok (.getfield 188, 3) := by decide +kernel
theorem dX6_likeness_72 : decode cX6_likeness 72 = .ok (.imul, 1) := by decide +kernel
theorem dX6_likeness_73 : decode cX6_likeness 73 = .ok (.iload_n 2, 1) := by decide +kernel
theorem dX6_likeness_74 : decode cX6_likeness 74 = .ok (.iastore, 1) := by decide +kernel
theorem dX6_likeness_75 : decode cX6_likeness 75 = .ok (.aload_n 0, 1) := by decide +kernel
theorem dX6_likeness_76 : decode cX6_likeness 76 = .ok (.getfield 62, 3) := by decide +kernel
theorem dX6_likeness_79 : decode cX6_likeness 79 = .ok (.iconst 4, 1) := by decide +kernel
theorem dX6_likeness_80 : decode cX6_likeness 80 = .ok (.aload_n 0, 1) := by decide +kernel
theorem dX6_likeness_81 : decode cX6_likeness 81 = .ok (.getfield 188, 3) := by decide +kernel
theorem dX6_likeness_84 : decode cX6_likeness 84 = .ok (.imul, 1) := by decide +kernel
theorem dX6_likeness_85 : decode cX6_likeness 85 = .ok (.iconst 1, 1) := by decide +kernel
theorem dX6_likeness_86 : decode cX6_likeness 86 = .ok (.iadd, 1) := by decide +kernel
theorem dX6_likeness_87 : decode cX6_likeness 87 = .ok (.iload_n 3, 1) := by decide +kernel
theorem dX6_likeness_88 : decode cX6_likeness 88 = .ok (.iastore, 1) := by decide +kernel
theorem dX6_likeness_89 : decode cX6_likeness 89 = .ok (.aload_n 0, 1) := by decide +kernel
theorem dX6_likeness_90 : decode cX6_likeness 90 = .ok (.getfield 62, 3) := by decide +kernel
theorem dX6_likeness_93 : decode cX6_likeness 93 = .ok (.iconst 4, 1) := by decide +kernel
theorem dX6_likeness_94 : decode cX6_likeness 94 = .ok (.aload_n 0, 1) := by decide +kernel
theorem dX6_likeness_95 : decode cX6_likeness 95 = .ok (.getfield 188, 3) := by decide +kernel
theorem dX6_likeness_98 : decode cX6_likeness 98 = .ok (.imul, 1) := by decide +kernel
theorem dX6_likeness_99 : decode cX6_likeness 99 = .ok (.iconst 2, 1) := by decide +kernel
theorem dX6_likeness_100 : decode cX6_likeness 100 = .ok (.iadd, 1) := by decide +kernel
theorem dX6_likeness_101 : decode cX6_likeness 101 = .ok (.iload 4, 2) := by decide +kernel
theorem dX6_likeness_103 : decode cX6_likeness 103 = .ok (.iastore, 1) := by decide +kernel
theorem dX6_likeness_104 : decode cX6_likeness 104 = .ok (.aload_n 0, 1) := by decide +kernel
theorem dX6_likeness_105 : decode cX6_likeness 105 = .ok (.getfield 62, 3) := by decide +kernel
theorem dX6_likeness_108 : decode cX6_likeness 108 = .ok (.iconst 4, 1) := by decide +kernel
theorem dX6_likeness_109 : decode cX6_likeness 109 = .ok (.aload_n 0, 1) := by decide +kernel
theorem dX6_likeness_110 : decode cX6_likeness 110 = .ok (.getfield 188, 3) := by decide +kernel
theorem dX6_likeness_113 : decode cX6_likeness 113 = .ok (.imul, 1) := by decide +kernel
theorem dX6_likeness_114 : decode cX6_likeness 114 = .ok (.iconst 3, 1) := by decide +kernel
theorem dX6_likeness_115 : decode cX6_likeness 115 = .ok (.iadd, 1) := by decide +kernel
theorem dX6_likeness_116 : decode cX6_likeness 116 = .ok (.iload 5, 2) := by decide +kernel
theorem dX6_likeness_118 : decode cX6_likeness 118 = .ok (.iastore, 1) := by decide +kernel
theorem dX6_likeness_119 : decode cX6_likeness 119 = .ok (.aload_n 0, 1) := by decide +kernel
theorem dX6_likeness_120 : decode cX6_likeness 120 = .ok (.dup, 1) := by decide +kernel
theorem dX6_likeness_121 : decode cX6_likeness 121 = .ok (.getfield 188, 3) := by decide +kernel
theorem dX6_likeness_124 : decode cX6_likeness 124 = .ok (.iconst 1, 1) := by decide +kernel
theorem dX6_likeness_125 : decode cX6_likeness 125 = .ok (.iadd, 1) := by decide +kernel
theorem dX6_likeness_126 : decode cX6_likeness 126 = .ok (.putfield 188, 3) := by decide +kernel
theorem dX6_likeness_129 : decode cX6_likeness 129 = .ok (.aload_n 0, 1) := by decide +kernel
theorem dX6_likeness_130 : decode cX6_likeness 130 = .ok (.getfield 188, 3) := by decide +kernel
theorem dX6_likeness_133 : decode cX6_likeness 133 = .ok (.ireturn, 1) := by decide +kernel
theorem dX6_known_0 : decode cX6_known 0 = .ok (.aload_n 0, 1) := by decide +kernel
theorem dX6_known_1 : decode cX6_known 1 = .ok (.iload_n 1, 1) := by decide +kernel
theorem dX6_known_2 : decode cX6_known 2 = .ok (.invokevirtual 112, 3) := by decide +kernel
theorem dX6_known_5 : decode cX6_known 5 = .ok (.ifCond .ne 6, 3) := by decide +kernel
theorem dX6_known_8 : decode cX6_known 8 = .ok (.bipush (-2), 2) := by decide +kernel
theorem dX6_known_10 : decode cX6_known 10 = .ok (.ireturn, 1) := by decide +kernel
theorem dX6_known_11 : decode cX6_known 11 = .ok (.iconst 0, 1) := by decide +kernel
theorem dX6_known_12 : decode cX6_known 12 = .ok (.istore_n 2, 1) := by decide +kernel
theorem dX6_known_13 : decode cX6_known 13 = .ok (.iconst 0, 1) := by decide +kernel
theorem dX6_known_14 : decode cX6_known 14 = .ok (.istore_n 3, 1) := by decide +kernel
theorem dX6_known_15 : decode cX6_known 15 = .ok (.iload_n 3, 1) := by decide +kernel
theorem dX6_known_16 : decode cX6_known 16 = .ok (.aload_n 0, 1) := by decide +kernel
theorem dX6_known_17 : decode cX6_known 17 = .ok (.getfield 188, 3) := by decide +kernel
theorem dX6_known_20 : decode cX6_known 20 = .ok (.if_icmp .ge 73, 3) := by decide +kernel
theorem dX6_known_23 : decode cX6_known 23 = .ok (.iload_n 2, 1) := by decide +kernel
theorem dX6_known_24 : decode cX6_known 24 = .ok (.aload_n 0, 1) := by decide +kernel
theorem dX6_known_25 : decode cX6_known 25 = .ok (.getfield 59, 3) := by decide +kernel
theorem dX6_known_28 : decode cX6_known 28 = .ok (.iload_n 3, 1) := by decide +kernel
theorem dX6_known_29 : decode cX6_known 29 = .ok (.iaload, 1) := by decide +kernel
theorem dX6_known_30 : decode cX6_known 30 = .ok (.iload_n 1, 1) := by decide +kernel
theorem dX6_known_31 : decode cX6_known 31 = .ok (.if_icmp .ne 53, 3) := by decide +kernel
theorem dX6_known_34 : decode cX6_known 34 = .ok (.aload_n 0, 1) := by decide +kernel
theorem dX6_known_35 : decode cX6_known 35 = .ok (.aload_n 0, 1) := by decide +kernel
theorem dX6_known_36 : decode cX6_known 36 = .ok (.getfield 62, 3) := by decide +kernel
theorem dX6_known_39 : decode cX6_known 39 = .ok (.iconst 4, 1) := by decide +kernel
theorem dX6_known_40 : decode cX6_known 40 = .ok (.iload_n 3, 1) := by decide +kernel
theorem dX6_known_41 : decode cX6_known 41 = .ok (.imul, 1) := by decide +kernel
theorem dX6_known_42 : decode cX6_known 42 = .ok (.iaload, 1) := by decide +kernel
theorem dX6_known_43 : decode cX6_known 43 = .ok (.aload_n 0, 1) := by decide +kernel
theorem dX6_known_44 : decode cX6_known 44 = .ok (.getfield 62, 3) := by decide +kernel
theorem dX6_known_47 : decode cX6_known 47 = .ok (.iconst 4, 1) := by decide +kernel
theorem dX6_known_48 : decode cX6_known 48 = .ok (.iload_n 3, 1) := by decide +kernel
theorem dX6_known_49 : decode cX6_known 49 = .ok (.imul, 1) := by decide +kernel
theorem dX6_known_50 : decode cX6_known 50 = .ok (.iconst 1, 1) := by decide +kernel
theorem dX6_known_51 : decode cX6_known 51 = .ok (.iadd, 1) := by decide +kernel
theorem dX6_known_52 : decode cX6_known 52 = .ok (.iaload, 1) := by decide +kernel
theorem dX6_known_53 : decode cX6_known 53 = .ok (.aload_n 0, 1) := by decide +kernel
theorem dX6_known_54 : decode cX6_known 54 = .ok (.getfield 62, 3) := by decide +kernel
theorem dX6_known_57 : decode cX6_known 57 = .ok (.iconst 4, 1) := by decide +kernel
theorem dX6_known_58 : decode cX6_known 58 = .ok (.iload_n 3, 1) := by decide +kernel
theorem dX6_known_59 : decode cX6_known 59 = .ok (.imul, 1) := by decide +kernel
theorem dX6_known_60 : decode cX6_known 60 = .ok (.iconst 2, 1) := by decide +kernel
theorem dX6_known_61 : decode cX6_known 61 = .ok (.iadd, 1) := by decide +kernel
theorem dX6_known_62 : decode cX6_known 62 = .ok (.iaload, 1) := by decide +kernel
theorem dX6_known_63 : decode cX6_known 63 = .ok (.aload_n 0, 1) := by decide +kernel
theorem dX6_known_64 : decode cX6_known 64 = .ok (.getfield 62, 3) := by decide +kernel
theorem dX6_known_67 : decode cX6_known 67 = .ok (.iconst 4, 1) := by decide +kernel
theorem dX6_known_68 : decode cX6_known 68 = .ok (.iload_n 3, 1) := by decide +kernel
theorem dX6_known_69 : decode cX6_known 69 = .ok (.imul, 1) := by decide +kernel
theorem dX6_known_70 : decode cX6_known 70 = .ok (.iconst 3, 1) := by decide +kernel
theorem dX6_known_71 : decode cX6_known 71 = .ok (.iadd, 1) := by decide +kernel
theorem dX6_known_72 : decode cX6_known 72 = .ok (.iaload, 1) := by decide +kernel
theorem dX6_known_73 : decode cX6_known 73 = .ok (.invokevirtual 184, 3) := by decide +kernel
theorem dX6_known_76 : decode cX6_known 76 = .ok (.iload_n 1, 1) := by decide +kernel
theorem dX6_known_77 : decode cX6_known 77 = .ok (.if_icmp .ne 7, 3) := by decide +kernel
theorem dX6_known_80 : decode cX6_known 80 = .ok (.iconst 1, 1) := by decide +kernel
theorem dX6_known_81 : decode cX6_known 81 = .ok (.goto 4, 3) := by decide +kernel
theorem dX6_known_84 : decode cX6_known 84 = .ok (.iconst 0, 1) := by decide +kernel
theorem dX6_known_85 : decode cX6_known 85 = .ok (.iadd, 1) := by decide +kernel
theorem dX6_known_86 : decode cX6_known 86 = .ok (.istore_n 2, 1) := by decide +kernel
theorem dX6_known_87 : decode cX6_known 87 = .ok (.iinc 3 1, 3) := by decide +kernel
theorem dX6_known_90 : decode cX6_known 90 = .ok (.goto (-75), 3) := by decide +kernel
theorem dX6_known_93 : decode cX6_known 93 = .ok (.iload_n 2, 1) := by decide +kernel
theorem dX6_known_94 : decode cX6_known 94 = .ok (.ireturn, 1) := by decide +kernel
theorem dX6_about_0 : decode cX6_about 0 = .ok (.aload_n 0, 1) := by decide +kernel
theorem dX6_about_1 : decode cX6_about 1 = .ok (.iload_n 1, 1) := by decide +kernel
theorem dX6_about_2 : decode cX6_about 2 = .ok (.invokevirtual 112, 3) := by decide +kernel
theorem dX6_about_5 : decode cX6_about 5 = .ok (.ifCond .eq 12, 3) := by decide +kernel
theorem dX6_about_8 : decode cX6_about 8 = .ok (.iload_n 2, 1) := by decide +kernel
theorem dX6_about_9 : decode cX6_about 9 = .ok (.iconst 0, 1) := by decide +kernel
theorem dX6_about_10 : decode cX6_about 10 = .ok (.iconst 5, 1) := by decide +kernel
theorem dX6_about_11 : decode cX6_about 11 = .ok (.invokestatic 108, 3) := by decide +kernel
theorem dX6_about_14 : decode cX6_about 14 = .ok (.ifCond .ne 6, 3) := by decide +kernel
theorem dX6_about_17 : decode cX6_about 17 = .ok (.bipush (-2), 2) := by decide +kernel
theorem dX6_about_19 : decode cX6_about 19 = .ok (.ireturn, 1) := by decide +kernel
theorem dX6_about_20 : decode cX6_about 20 = .ok (.iload_n 2, 1) := by decide +kernel
theorem dX6_about_21 : decode cX6_about 21 = .ok (.tableswitch 70 0 4 #[35, 42, 49, 56, 63], 35) := by decide +kernel
theorem dX6_about_56 : decode cX6_about 56 = .ok (.aload_n 0, 1) := by decide +kernel
theorem dX6_about_57 : decode cX6_about 57 = .ok (.getfield 13, 3) := by decide +kernel
theorem dX6_about_60 : decode cX6_about 60 = .ok (.iload_n 1, 1) := by decide +kernel
theorem dX6_about_61 : decode cX6_about 61 = .ok (.iaload, 1) := by decide +kernel
theorem dX6_about_62 : decode cX6_about 62 = .ok (.ireturn, 1) := by decide +kernel
theorem dX6_about_63 : decode cX6_about 63 = .ok (.aload_n 0, 1) := by decide +kernel
theorem dX6_about_64 : decode cX6_about 64 = .ok (.getfield 16, 3) := by decide +kernel
theorem dX6_about_67 : decode cX6_about 67 = .ok (.iload_n 1, 1) := by decide +kernel
theorem dX6_about_68 : decode cX6_about 68 = .ok (.iaload, 1) := by decide +kernel
theorem dX6_about_69 : decode cX6_about 69 = .ok (.ireturn, 1) := by decide +kernel
theorem dX6_about_70 : decode cX6_about 70 = .ok (.aload_n 0, 1) := by decide +kernel
theorem dX6_about_71 : decode cX6_about 71 = .ok (.getfield 19, 3) := by decide +kernel
theorem dX6_about_74 : decode cX6_about 74 = .ok (.iload_n 1, 1) := by decide +kernel
theorem dX6_about_75 : decode cX6_about 75 = .ok (.iaload, 1) := by decide +kernel
theorem dX6_about_76 : decode cX6_about 76 = .ok (.ireturn, 1) := by decide +kernel
theorem dX6_about_77 : decode cX6_about 77 = .ok (.aload_n 0, 1) := by decide +kernel
theorem dX6_about_78 : decode cX6_about 78 = .ok (.getfield 22, 3) := by decide +kernel
theorem dX6_about_81 : decode cX6_about 81 = .ok (.iload_n 1, 1) := by decide +kernel
theorem dX6_about_82 : decode cX6_about 82 = .ok (.iaload, 1) := by decide +kernel
theorem dX6_about_83 : decode cX6_about 83 = .ok (.ireturn, 1) := by decide +kernel
theorem dX6_about_84 : decode cX6_about 84 = .ok (.aload_n 0, 1) := by decide +kernel
theorem dX6_about_85 : decode cX6_about 85 = .ok (.getfield 25, 3) := by decide +kernel
theorem dX6_about_88 : decode cX6_about 88 = .ok (.iload_n 1, 1) := by decide +kernel
theorem dX6_about_89 : decode cX6_about 89 = .ok (.iaload, 1) := by decide +kernel
theorem dX6_about_90 : decode cX6_about 90 = .ok (.ireturn, 1) := by decide +kernel
theorem dX6_about_91 : decode cX6_about 91 = .ok (.aload_n 0, 1) := by decide +kernel
theorem dX6_about_92 : decode cX6_about 92 = .ok (.getfield 28, 3) := by decide +kernel
theorem dX6_about_95 : decode cX6_about 95 = .ok (.iload_n 1, 1) := by decide +kernel
theorem dX6_about_96 : decode cX6_about 96 = .ok (.iaload, 1) := by decide +kernel
theorem dX6_about_97 : decode cX6_about 97 = .ok (.ireturn, 1) := by decide +kernel
theorem dX6_count_0 : decode cX6_count 0 = .ok (.iload_n 1, 1) := by decide +kernel
theorem dX6_count_1 : decode cX6_count 1 = .ok (.tableswitch 60 0 4 #[35, 40, 45, 50, 55], 35) := by decide +kernel
theorem dX6_count_36 : decode cX6_count 36 = .ok (.aload_n 0, 1) := by decide +kernel
theorem dX6_count_37 : decode cX6_count 37 = .ok (.getfield 105, 3) := by decide +kernel
theorem dX6_count_40 : decode cX6_count 40 = .ok (.ireturn, 1) := by decide +kernel
theorem dX6_count_41 : decode cX6_count 41 = .ok (.aload_n 0, 1) := by decide +kernel
theorem dX6_count_42 : decode cX6_count 42 = .ok (.getfield 46, 3) := by decide +kernel
theorem dX6_count_45 : decode cX6_count 45 = .ok (.ireturn, 1) := by decide +kernel
theorem dX6_count_46 : decode cX6_count 46 = .ok (.aload_n 0, 1) := by decide +kernel
theorem dX6_count_47 : decode cX6_count 47 = .ok (.getfield 161, 3) := by decide +kernel
theorem dX6_count_50 : decode cX6_count 50 = .ok (.ireturn, 1) := by decide +kernel
theorem dX6_count_51 : decode cX6_count 51 = .ok (.aload_n 0, 1) := by decide +kernel
theorem dX6_count_52 : decode cX6_count 52 = .ok (.getfield 188, 3) := by decide +kernel
theorem dX6_count_55 : decode cX6_count 55 = .ok (.ireturn, 1) := by decide +kernel
theorem dX6_count_56 : decode cX6_count 56 = .ok (.aload_n 0, 1) := by decide +kernel
theorem dX6_count_57 : decode cX6_count 57 = .ok (.getfield 178, 3) := by decide +kernel
theorem dX6_count_60 : decode cX6_count 60 = .ok (.ireturn, 1) := by decide +kernel
theorem dX6_count_61 : decode cX6_count 61 = .ok (.bipush (-2), 2) := by decide +kernel
theorem dX6_count_63 : decode cX6_count 63 = .ok (.ireturn, 1) := by decide +kernel
theorem dX6_digest_0 : decode cX6_digest 0 = .ok (.ldc2_w 191, 3) := by decide +kernel
theorem dX6_digest_3 : decode cX6_digest 3 = .ok (.lstore_n 1, 1) := by decide +kernel
theorem dX6_digest_4 : decode cX6_digest 4 = .ok (.iconst 0, 1) := by decide +kernel
theorem dX6_digest_5 : decode cX6_digest 5 = .ok (.istore_n 3, 1) := by decide +kernel
theorem dX6_digest_6 : decode cX6_digest 6 = .ok (.iload_n 3, 1) := by decide +kernel
theorem dX6_digest_7 : decode cX6_digest 7 = .ok (.iconst 5, 1) := by decide +kernel
theorem dX6_digest_8 : decode cX6_digest 8 = .ok (.if_icmp .ge 22, 3) := by decide +kernel
theorem dX6_digest_11 : decode cX6_digest 11 = .ok (.ldc2_w 193, 3) := by decide +kernel
theorem dX6_digest_14 : decode cX6_digest 14 = .ok (.lload_n 1, 1) := by decide +kernel
theorem dX6_digest_15 : decode cX6_digest 15 = .ok (.lmul, 1) := by decide +kernel
theorem dX6_digest_16 : decode cX6_digest 16 = .ok (.aload_n 0, 1) := by decide +kernel
theorem dX6_digest_17 : decode cX6_digest 17 = .ok (.iload_n 3, 1) := by decide +kernel
theorem dX6_digest_18 : decode cX6_digest 18 = .ok (.invokevirtual 195, 3) := by decide +kernel
theorem dX6_digest_21 : decode cX6_digest 21 = .ok (.i2l, 1) := by decide +kernel
theorem dX6_digest_22 : decode cX6_digest 22 = .ok (.ladd, 1) := by decide +kernel
theorem dX6_digest_23 : decode cX6_digest 23 = .ok (.lstore_n 1, 1) := by decide +kernel
theorem dX6_digest_24 : decode cX6_digest 24 = .ok (.iinc 3 1, 3) := by decide +kernel
theorem dX6_digest_27 : decode cX6_digest 27 = .ok (.goto (-21), 3) := by decide +kernel
theorem dX6_digest_30 : decode cX6_digest 30 = .ok (.iconst 0, 1) := by decide +kernel
theorem dX6_digest_31 : decode cX6_digest 31 = .ok (.istore_n 3, 1) := by decide +kernel
theorem dX6_digest_32 : decode cX6_digest 32 = .ok (.iload_n 3, 1) := by decide +kernel
theorem dX6_digest_33 : decode cX6_digest 33 = .ok (.aload_n 0, 1) := by decide +kernel
theorem dX6_digest_34 : decode cX6_digest 34 = .ok (.getfield 105, 3) := by decide +kernel
theorem dX6_digest_37 : decode cX6_digest 37 = .ok (.if_icmp .ge 157, 3) := by decide +kernel
theorem dX6_digest_40 : decode cX6_digest 40 = .ok (.iconst 0, 1) := by decide +kernel
theorem dX6_digest_41 : decode cX6_digest 41 = .ok (.istore 4, 2) := by decide +kernel
theorem dX6_digest_43 : decode cX6_digest 43 = .ok (.iload 4, 2) := by decide +kernel
theorem dX6_digest_45 : decode cX6_digest 45 = .ok (.bipush 6, 2) := by decide +kernel
theorem dX6_digest_47 : decode cX6_digest 47 = .ok (.if_icmp .ge 24, 3) := by decide +kernel
theorem dX6_digest_50 : decode cX6_digest 50 = .ok (.ldc2_w 193, 3) := by decide +kernel
theorem dX6_digest_53 : decode cX6_digest 53 = .ok (.lload_n 1, 1) := by decide +kernel
theorem dX6_digest_54 : decode cX6_digest 54 = .ok (.lmul, 1) := by decide +kernel
theorem dX6_digest_55 : decode cX6_digest 55 = .ok (.aload_n 0, 1) := by decide +kernel
theorem dX6_digest_56 : decode cX6_digest 56 = .ok (.iload_n 3, 1) := by decide +kernel
theorem dX6_digest_57 : decode cX6_digest 57 = .ok (.iload 4, 2) := by decide +kernel
theorem dX6_digest_59 : decode cX6_digest 59 = .ok (.invokevirtual 198, 3) := by decide +kernel
theorem dX6_digest_62 : decode cX6_digest 62 = .ok (.i2l, 1) := by decide +kernel
theorem dX6_digest_63 : decode cX6_digest 63 = .ok (.ladd, 1) := by decide +kernel
theorem dX6_digest_64 : decode cX6_digest 64 = .ok (.lstore_n 1, 1) := by decide +kernel
theorem dX6_digest_65 : decode cX6_digest 65 = .ok (.iinc 4 1, 3) := by decide +kernel
theorem dX6_digest_68 : decode cX6_digest 68 = .ok (.goto (-25), 3) := by decide +kernel
theorem dX6_digest_71 : decode cX6_digest 71 = .ok (.iconst 0, 1) := by decide +kernel
theorem dX6_digest_72 : decode cX6_digest 72 = .ok (.istore 4, 2) := by decide +kernel
theorem dX6_digest_74 : decode cX6_digest 74 = .ok (.iload 4, 2) := by decide +kernel
theorem dX6_digest_76 : decode cX6_digest 76 = .ok (.bipush 6, 2) := by decide +kernel
theorem dX6_digest_78 : decode cX6_digest 78 = .ok (.if_icmp .ge 29, 3) := by decide +kernel
theorem dX6_digest_81 : decode cX6_digest 81 = .ok (.ldc2_w 193, 3) := by decide +kernel
theorem dX6_digest_84 : decode cX6_digest 84 = .ok (.lload_n 1, 1) := by decide +kernel
theorem dX6_digest_85 : decode cX6_digest 85 = .ok (.lmul, 1) := by decide +kernel
theorem dX6_digest_86 : decode cX6_digest 86 = .ok (.aload_n 0, 1) := by decide +kernel
theorem dX6_digest_87 : decode cX6_digest 87 = .ok (.getfield 7, 3) := by decide +kernel
theorem dX6_digest_90 : decode cX6_digest 90 = .ok (.bipush 6, 2) := by decide +kernel
theorem dX6_digest_92 : decode cX6_digest 92 = .ok (.iload_n 3, 1) := by decide +kernel
theorem dX6_digest_93 : decode cX6_digest 93 = .ok (.imul, 1) := by decide +kernel
theorem dX6_digest_94 : decode cX6_digest 94 = .ok (.iload 4, 2) := by decide +kernel
theorem dX6_digest_96 : decode cX6_digest 96 = .ok (.iadd, 1) := by decide +kernel
theorem dX6_digest_97 : decode cX6_digest 97 = .ok (.iaload, 1) := by decide +kernel
theorem dX6_digest_98 : decode cX6_digest 98 = .ok (.i2l, 1) := by decide +kernel
theorem dX6_digest_99 : decode cX6_digest 99 = .ok (.ladd, 1) := by decide +kernel
theorem dX6_digest_100 : decode cX6_digest 100 = .ok (.lstore_n 1, 1) := by decide +kernel
theorem dX6_digest_101 : decode cX6_digest 101 = .ok (.iinc 4 1, 3) := by decide +kernel
theorem dX6_digest_104 : decode cX6_digest 104 = .ok (.goto (-30), 3) := by decide +kernel
theorem dX6_digest_107 : decode cX6_digest 107 = .ok (.iconst 0, 1) := by decide +kernel
theorem dX6_digest_108 : decode cX6_digest 108 = .ok (.istore 4, 2) := by decide +kernel
theorem dX6_digest_110 : decode cX6_digest 110 = .ok (.iload 4, 2) := by decide +kernel
theorem dX6_digest_112 : decode cX6_digest 112 = .ok (.iconst 4, 1) := by decide +kernel
theorem dX6_digest_113 : decode cX6_digest 113 = .ok (.if_icmp .ge 41, 3) := by decide +kernel
theorem dX6_digest_116 : decode cX6_digest 116 = .ok (.ldc2_w 193, 3) := by decide +kernel
theorem dX6_digest_119 : decode cX6_digest 119 = .ok (.lload_n 1, 1) := by decide +kernel
theorem dX6_digest_120 : decode cX6_digest 120 = .ok (.lmul, 1) := by decide +kernel
theorem dX6_digest_121 : decode cX6_digest 121 = .ok (.aload_n 0, 1) := by decide +kernel
theorem dX6_digest_122 : decode cX6_digest 122 = .ok (.iload_n 3, 1) := by decide +kernel
theorem dX6_digest_123 : decode cX6_digest 123 = .ok (.iload 4, 2) := by decide +kernel
theorem dX6_digest_125 : decode cX6_digest 125 = .ok (.iconst 0, 1) := by decide +kernel
theorem dX6_digest_126 : decode cX6_digest 126 = .ok (.invokevirtual 139, 3) := by decide +kernel
theorem dX6_digest_129 : decode cX6_digest 129 = .ok (.i2l, 1) := by decide +kernel
theorem dX6_digest_130 : decode cX6_digest 130 = .ok (.ladd, 1) := by decide +kernel
theorem dX6_digest_131 : decode cX6_digest 131 = .ok (.lstore_n 1, 1) := by decide +kernel
theorem dX6_digest_132 : decode cX6_digest 132 = .ok (.ldc2_w 193, 3) := by decide +kernel
theorem dX6_digest_135 : decode cX6_digest 135 = .ok (.lload_n 1, 1) := by decide +kernel
theorem dX6_digest_136 : decode cX6_digest 136 = .ok (.lmul, 1) := by decide +kernel
theorem dX6_digest_137 : decode cX6_digest 137 = .ok (.aload_n 0, 1) := by decide +kernel
theorem dX6_digest_138 : decode cX6_digest 138 = .ok (.iload_n 3, 1) := by decide +kernel
theorem dX6_digest_139 : decode cX6_digest 139 = .ok (.iload 4, 2) := by decide +kernel
theorem dX6_digest_141 : decode cX6_digest 141 = .ok (.iconst 1, 1) := by decide +kernel
theorem dX6_digest_142 : decode cX6_digest 142 = .ok (.invokevirtual 139, 3) := by decide +kernel
theorem dX6_digest_145 : decode cX6_digest 145 = .ok (.i2l, 1) := by decide +kernel
theorem dX6_digest_146 : decode cX6_digest 146 = .ok (.ladd, 1) := by decide +kernel
theorem dX6_digest_147 : decode cX6_digest 147 = .ok (.lstore_n 1, 1) := by decide +kernel
theorem dX6_digest_148 : decode cX6_digest 148 = .ok (.iinc 4 1, 3) := by decide +kernel
theorem dX6_digest_151 : decode cX6_digest 151 = .ok (.goto (-41), 3) := by decide +kernel
theorem dX6_digest_154 : decode cX6_digest 154 = .ok (.iconst 0, 1) := by decide +kernel
theorem dX6_digest_155 : decode cX6_digest 155 = .ok (.istore 4, 2) := by decide +kernel
theorem dX6_digest_157 : decode cX6_digest 157 = .ok (.iload 4, 2) := by decide +kernel
theorem dX6_digest_159 : decode cX6_digest 159 = .ok (.iconst 4, 1) := by decide +kernel
theorem dX6_digest_160 : decode cX6_digest 160 = .ok (.if_icmp .ge 28, 3) := by decide +kernel
theorem dX6_digest_163 : decode cX6_digest 163 = .ok (.ldc2_w 193, 3) := by decide +kernel
theorem dX6_digest_166 : decode cX6_digest 166 = .ok (.lload_n 1, 1) := by decide +kernel
theorem dX6_digest_167 : decode cX6_digest 167 = .ok (.lmul, 1) := by decide +kernel
theorem dX6_digest_168 : decode cX6_digest 168 = .ok (.aload_n 0, 1) := by decide +kernel
