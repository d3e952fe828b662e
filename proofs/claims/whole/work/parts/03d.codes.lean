theorem dX6_laySets_32 : decode cX6_laySets 32 = .ok (.getfield 71, 3) := by decide +kernel
theorem dX6_laySets_35 : decode cX6_laySets 35 = .ok (.iload_n 1, 1) := by decide +kernel
theorem dX6_laySets_36 : decode cX6_laySets 36 = .ok (.dup2, 1) := by decide +kernel
theorem dX6_laySets_37 : decode cX6_laySets 37 = .ok (.iaload, 1) := by decide +kernel
theorem dX6_laySets_38 : decode cX6_laySets 38 = .ok (.iload_n 1, 1) := by decide +kernel
theorem dX6_laySets_39 : decode cX6_laySets 39 = .ok (.iload_n 3, 1) := by decide +kernel
theorem dX6_laySets_40 : decode cX6_laySets 40 = .ok (.ishr, 1) := by decide +kernel
theorem dX6_laySets_41 : decode cX6_laySets 41 = .ok (.iconst 1, 1) := by decide +kernel
theorem dX6_laySets_42 : decode cX6_laySets 42 = .ok (.iand, 1) := by decide +kernel
theorem dX6_laySets_43 : decode cX6_laySets 43 = .ok (.aload_n 0, 1) := by decide +kernel
theorem dX6_laySets_44 : decode cX6_laySets 44 = .ok (.getfield 13, 3) := by decide +kernel
theorem dX6_laySets_47 : decode cX6_laySets 47 = .ok (.iload_n 3, 1) := by decide +kernel
theorem dX6_laySets_48 : decode cX6_laySets 48 = .ok (.iaload, 1) := by decide +kernel
theorem dX6_laySets_49 : decode cX6_laySets 49 = .ok (.imul, 1) := by decide +kernel
theorem dX6_laySets_50 : decode cX6_laySets 50 = .ok (.iadd, 1) := by decide +kernel
theorem dX6_laySets_51 : decode cX6_laySets 51 = .ok (.iastore, 1) := by decide +kernel
theorem dX6_laySets_52 : decode cX6_laySets 52 = .ok (.iload_n 2, 1) := by decide +kernel
theorem dX6_laySets_53 : decode cX6_laySets 53 = .ok (.iload_n 1, 1) := by decide +kernel
theorem dX6_laySets_54 : decode cX6_laySets 54 = .ok (.iload_n 3, 1) := by decide +kernel
theorem dX6_laySets_55 : decode cX6_laySets 55 = .ok (.ishr, 1) := by decide +kernel
theorem dX6_laySets_56 : decode cX6_laySets 56 = .ok (.iconst 1, 1) := by decide +kernel
theorem dX6_laySets_57 : decode cX6_laySets 57 = .ok (.iand, 1) := by decide +kernel
theorem dX6_laySets_58 : decode cX6_laySets 58 = .ok (.iadd, 1) := by decide +kernel
theorem dX6_laySets_59 : decode cX6_laySets 59 = .ok (.istore_n 2, 1) := by decide +kernel
theorem dX6_laySets_60 : decode cX6_laySets 60 = .ok (.iinc 3 1, 3) := by decide +kernel
theorem dX6_laySets_63 : decode cX6_laySets 63 = .ok (.goto (-40), 3) := by decide +kernel
theorem dX6_laySets_66 : decode cX6_laySets 66 = .ok (.iconst 0, 1) := by decide +kernel
theorem dX6_laySets_67 : decode cX6_laySets 67 = .ok (.istore_n 3, 1) := by decide +kernel
theorem dX6_laySets_68 : decode cX6_laySets 68 = .ok (.iload_n 3, 1) := by decide +kernel
theorem dX6_laySets_69 : decode cX6_laySets 69 = .ok (.bipush 6, 2) := by decide +kernel
theorem dX6_laySets_71 : decode cX6_laySets 71 = .ok (.if_icmp .ge 133, 3) := by decide +kernel
theorem dX6_laySets_74 : decode cX6_laySets 74 = .ok (.iconst 0, 1) := by decide +kernel
theorem dX6_laySets_75 : decode cX6_laySets 75 = .ok (.istore 4, 2) := by decide +kernel
theorem dX6_laySets_77 : decode cX6_laySets 77 = .ok (.iload_n 2, 1) := by decide +kernel
theorem dX6_laySets_78 : decode cX6_laySets 78 = .ok (.aload_n 0, 1) := by decide +kernel
theorem dX6_laySets_79 : decode cX6_laySets 79 = .ok (.getfield 46, 3) := by decide +kernel
theorem dX6_laySets_82 : decode cX6_laySets 82 = .ok (.if_icmp .gt 7, 3) := by decide +kernel
theorem dX6_laySets_85 : decode cX6_laySets 85 = .ok (.iconst 1, 1) := by decide +kernel
theorem dX6_laySets_86 : decode cX6_laySets 86 = .ok (.goto 4, 3) := by decide +kernel
theorem dX6_laySets_89 : decode cX6_laySets 89 = .ok (.iconst 0, 1) := by decide +kernel
theorem dX6_laySets_90 : decode cX6_laySets 90 = .ok (.istore 5, 2) := by decide +kernel
theorem dX6_laySets_92 : decode cX6_laySets 92 = .ok (.iconst 0, 1) := by decide +kernel
theorem dX6_laySets_93 : decode cX6_laySets 93 = .ok (.istore 6, 2) := by decide +kernel
theorem dX6_laySets_95 : decode cX6_laySets 95 = .ok (.iload 6, 2) := by decide +kernel
theorem dX6_laySets_97 : decode cX6_laySets 97 = .ok (.aload_n 0, 1) := by decide +kernel
theorem dX6_laySets_98 : decode cX6_laySets 98 = .ok (.getfield 105, 3) := by decide +kernel
theorem dX6_laySets_101 : decode cX6_laySets 101 = .ok (.if_icmp .ge 69, 3) := by decide +kernel
theorem dX6_laySets_104 : decode cX6_laySets 104 = .ok (.iload_n 1, 1) := by decide +kernel
theorem dX6_laySets_105 : decode cX6_laySets 105 = .ok (.iload 6, 2) := by decide +kernel
theorem dX6_laySets_107 : decode cX6_laySets 107 = .ok (.ishr, 1) := by decide +kernel
theorem dX6_laySets_108 : decode cX6_laySets 108 = .ok (.iconst 1, 1) := by decide +kernel
theorem dX6_laySets_109 : decode cX6_laySets 109 = .ok (.iand, 1) := by decide +kernel
theorem dX6_laySets_110 : decode cX6_laySets 110 = .ok (.iconst 1, 1) := by decide +kernel
theorem dX6_laySets_111 : decode cX6_laySets 111 = .ok (.if_icmp .ne 53, 3) := by decide +kernel
theorem dX6_laySets_114 : decode cX6_laySets 114 = .ok (.iload 4, 2) := by decide +kernel
theorem dX6_laySets_116 : decode cX6_laySets 116 = .ok (.aload_n 0, 1) := by decide +kernel
theorem dX6_laySets_117 : decode cX6_laySets 117 = .ok (.getfield 7, 3) := by decide +kernel
theorem dX6_laySets_120 : decode cX6_laySets 120 = .ok (.bipush 6, 2) := by decide +kernel
theorem dX6_laySets_122 : decode cX6_laySets 122 = .ok (.iload 6, 2) := by decide +kernel
theorem dX6_laySets_124 : decode cX6_laySets 124 = .ok (.imul, 1) := by decide +kernel
theorem dX6_laySets_125 : decode cX6_laySets 125 = .ok (.iload_n 3, 1) := by decide +kernel
theorem dX6_laySets_126 : decode cX6_laySets 126 = .ok (.iadd, 1) := by decide +kernel
theorem dX6_laySets_127 : decode cX6_laySets 127 = .ok (.iaload, 1) := by decide +kernel
theorem dX6_laySets_128 : decode cX6_laySets 128 = .ok (.iadd, 1) := by decide +kernel
theorem dX6_laySets_129 : decode cX6_laySets 129 = .ok (.istore 4, 2) := by decide +kernel
theorem dX6_laySets_131 : decode cX6_laySets 131 = .ok (.iload 5, 2) := by decide +kernel
theorem dX6_laySets_133 : decode cX6_laySets 133 = .ok (.ifCond .eq 28, 3) := by decide +kernel
theorem dX6_laySets_136 : decode cX6_laySets 136 = .ok (.iload_n 3, 1) := by decide +kernel
theorem dX6_laySets_137 : decode cX6_laySets 137 = .ok (.aload_n 0, 1) := by decide +kernel
theorem dX6_laySets_138 : decode cX6_laySets 138 = .ok (.getfield 16, 3) := by decide +kernel
theorem dX6_laySets_141 : decode cX6_laySets 141 = .ok (.iload 6, 2) := by decide +kernel
theorem dX6_laySets_143 : decode cX6_laySets 143 = .ok (.iaload, 1) := by decide +kernel
theorem dX6_laySets_144 : decode cX6_laySets 144 = .ok (.aload_n 0, 1) := by decide +kernel
theorem dX6_laySets_145 : decode cX6_laySets 145 = .ok (.getfield 19, 3) := by decide +kernel
theorem dX6_laySets_148 : decode cX6_laySets 148 = .ok (.iload 6, 2) := by decide +kernel
theorem dX6_laySets_150 : decode cX6_laySets 150 = .ok (.iaload, 1) := by decide +kernel
theorem dX6_laySets_151 : decode cX6_laySets 151 = .ok (.invokestatic 108, 3) := by decide +kernel
theorem dX6_laySets_154 : decode cX6_laySets 154 = .ok (.ifCond .eq 7, 3) := by decide +kernel
theorem dX6_laySets_157 : decode cX6_laySets 157 = .ok (.iconst 1, 1) := by decide +kernel
theorem dX6_laySets_158 : decode cX6_laySets 158 = .ok (.goto 4, 3) := by decide +kernel
theorem dX6_laySets_161 : decode cX6_laySets 161 = .ok (.iconst 0, 1) := by decide +kernel
theorem dX6_laySets_162 : decode cX6_laySets 162 = .ok (.istore 5, 2) := by decide +kernel
theorem dX6_laySets_164 : decode cX6_laySets 164 = .ok (.iinc 6 1, 3) := by decide +kernel
theorem dX6_laySets_167 : decode cX6_laySets 167 = .ok (.goto (-72), 3) := by decide +kernel
theorem dX6_laySets_170 : decode cX6_laySets 170 = .ok (.aload_n 0, 1) := by decide +kernel
theorem dX6_laySets_171 : decode cX6_laySets 171 = .ok (.getfield 68, 3) := by decide +kernel
theorem dX6_laySets_174 : decode cX6_laySets 174 = .ok (.sipush 256, 3) := by decide +kernel
theorem dX6_laySets_177 : decode cX6_laySets 177 = .ok (.iload_n 3, 1) := by decide +kernel
theorem dX6_laySets_178 : decode cX6_laySets 178 = .ok (.imul, 1) := by decide +kernel
theorem dX6_laySets_179 : decode cX6_laySets 179 = .ok (.iload_n 1, 1) := by decide +kernel
theorem dX6_laySets_180 : decode cX6_laySets 180 = .ok (.iadd, 1) := by decide +kernel
theorem dX6_laySets_181 : decode cX6_laySets 181 = .ok (.iload 4, 2) := by decide +kernel
theorem dX6_laySets_183 : decode cX6_laySets 183 = .ok (.iastore, 1) := by decide +kernel
theorem dX6_laySets_184 : decode cX6_laySets 184 = .ok (.aload_n 0, 1) := by decide +kernel
theorem dX6_laySets_185 : decode cX6_laySets 185 = .ok (.getfield 74, 3) := by decide +kernel
theorem dX6_laySets_188 : decode cX6_laySets 188 = .ok (.sipush 256, 3) := by decide +kernel
theorem dX6_laySets_191 : decode cX6_laySets 191 = .ok (.iload_n 3, 1) := by decide +kernel
theorem dX6_laySets_192 : decode cX6_laySets 192 = .ok (.imul, 1) := by decide +kernel
theorem dX6_laySets_193 : decode cX6_laySets 193 = .ok (.iload_n 1, 1) := by decide +kernel
theorem dX6_laySets_194 : decode cX6_laySets 194 = .ok (.iadd, 1) := by decide +kernel
theorem dX6_laySets_195 : decode cX6_laySets 195 = .ok (.iload 5, 2) := by decide +kernel
theorem dX6_laySets_197 : decode cX6_laySets 197 = .ok (.bastore, 1) := by decide +kernel
theorem dX6_laySets_198 : decode cX6_laySets 198 = .ok (.iinc 3 1, 3) := by decide +kernel
theorem dX6_laySets_201 : decode cX6_laySets 201 = .ok (.goto (-133), 3) := by decide +kernel
theorem dX6_laySets_204 : decode cX6_laySets 204 = .ok (.iinc 1 1, 3) := by decide +kernel
theorem dX6_laySets_207 : decode cX6_laySets 207 = .ok (.goto (-205), 3) := by decide +kernel
theorem dX6_laySets_210 : decode cX6_laySets 210 = .ok (.return_, 1) := by decide +kernel
theorem dX6_worth_0 : decode cX6_worth 0 = .ok (.aload_n 0, 1) := by decide +kernel
theorem dX6_worth_1 : decode cX6_worth 1 = .ok (.getfield 74, 3) := by decide +kernel
theorem dX6_worth_4 : decode cX6_worth 4 = .ok (.sipush 256, 3) := by decide +kernel
theorem dX6_worth_7 : decode cX6_worth 7 = .ok (.iload_n 1, 1) := by decide +kernel
theorem dX6_worth_8 : decode cX6_worth 8 = .ok (.imul, 1) := by decide +kernel
theorem dX6_worth_9 : decode cX6_worth 9 = .ok (.iload_n 3, 1) := by decide +kernel
theorem dX6_worth_10 : decode cX6_worth 10 = .ok (.iadd, 1) := by decide +kernel
theorem dX6_worth_11 : decode cX6_worth 11 = .ok (.baload, 1) := by decide +kernel
theorem dX6_worth_12 : decode cX6_worth 12 = .ok (.ifCond .eq 44, 3) := by decide +kernel
theorem dX6_worth_15 : decode cX6_worth 15 = .ok (.aload_n 0, 1) := by decide +kernel
theorem dX6_worth_16 : decode cX6_worth 16 = .ok (.getfield 68, 3) := by decide +kernel
theorem dX6_worth_19 : decode cX6_worth 19 = .ok (.sipush 256, 3) := by decide +kernel
theorem dX6_worth_22 : decode cX6_worth 22 = .ok (.iload_n 1, 1) := by decide +kernel
theorem dX6_worth_23 : decode cX6_worth 23 = .ok (.imul, 1) := by decide +kernel
theorem dX6_worth_24 : decode cX6_worth 24 = .ok (.iload_n 3, 1) := by decide +kernel
theorem dX6_worth_25 : decode cX6_worth 25 = .ok (.iadd, 1) := by decide +kernel
theorem dX6_worth_26 : decode cX6_worth 26 = .ok (.iaload, 1) := by decide +kernel
theorem dX6_worth_27 : decode cX6_worth 27 = .ok (.aload_n 0, 1) := by decide +kernel
theorem dX6_worth_28 : decode cX6_worth 28 = .ok (.getfield 71, 3) := by decide +kernel
theorem dX6_worth_31 : decode cX6_worth 31 = .ok (.iload_n 3, 1) := by decide +kernel
theorem dX6_worth_32 : decode cX6_worth 32 = .ok (.iload_n 2, 1) := by decide +kernel
theorem dX6_worth_33 : decode cX6_worth 33 = .ok (.iconst (-1), 1) := by decide +kernel
theorem dX6_worth_34 : decode cX6_worth 34 = .ok (.ixor, 1) := by decide +kernel
theorem dX6_worth_35 : decode cX6_worth 35 = .ok (.iand, 1) := by decide +kernel
theorem dX6_worth_36 : decode cX6_worth 36 = .ok (.iaload, 1) := by decide +kernel
theorem dX6_worth_37 : decode cX6_worth 37 = .ok (.isub, 1) := by decide +kernel
theorem dX6_worth_38 : decode cX6_worth 38 = .ok (.aload_n 0, 1) := by decide +kernel
theorem dX6_worth_39 : decode cX6_worth 39 = .ok (.getfield 65, 3) := by decide +kernel
theorem dX6_worth_42 : decode cX6_worth 42 = .ok (.sipush 256, 3) := by decide +kernel
theorem dX6_worth_45 : decode cX6_worth 45 = .ok (.iload_n 1, 1) := by decide +kernel
theorem dX6_worth_46 : decode cX6_worth 46 = .ok (.iconst 1, 1) := by decide +kernel
theorem dX6_worth_47 : decode cX6_worth 47 = .ok (.iadd, 1) := by decide +kernel
theorem dX6_worth_48 : decode cX6_worth 48 = .ok (.imul, 1) := by decide +kernel
theorem dX6_worth_49 : decode cX6_worth 49 = .ok (.iload_n 3, 1) := by decide +kernel
theorem dX6_worth_50 : decode cX6_worth 50 = .ok (.iadd, 1) := by decide +kernel
theorem dX6_worth_51 : decode cX6_worth 51 = .ok (.iaload, 1) := by decide +kernel
theorem dX6_worth_52 : decode cX6_worth 52 = .ok (.iadd, 1) := by decide +kernel
theorem dX6_worth_53 : decode cX6_worth 53 = .ok (.goto 5, 3) := by decide +kernel
theorem dX6_worth_56 : decode cX6_worth 56 = .ok (.ldc 122, 2) := by decide +kernel
theorem dX6_worth_58 : decode cX6_worth 58 = .ok (.ireturn, 1) := by decide +kernel
theorem dX6_layPlan_0 : decode cX6_layPlan 0 = .ok (.aload_n 0, 1) := by decide +kernel
theorem dX6_layPlan_1 : decode cX6_layPlan 1 = .ok (.invokevirtual 123, 3) := by decide +kernel
theorem dX6_layPlan_4 : decode cX6_layPlan 4 = .ok (.iconst 0, 1) := by decide +kernel
theorem dX6_layPlan_5 : decode cX6_layPlan 5 = .ok (.istore_n 2, 1) := by decide +kernel
theorem dX6_layPlan_6 : decode cX6_layPlan 6 = .ok (.iload_n 2, 1) := by decide +kernel
theorem dX6_layPlan_7 : decode cX6_layPlan 7 = .ok (.sipush 256, 3) := by decide +kernel
theorem dX6_layPlan_10 : decode cX6_layPlan 10 = .ok (.if_icmp .ge 22, 3) := by decide +kernel
theorem dX6_layPlan_13 : decode cX6_layPlan 13 = .ok (.aload_n 0, 1) := by decide +kernel
theorem dX6_layPlan_14 : decode cX6_layPlan 14 = .ok (.getfield 65, 3) := by decide +kernel
theorem dX6_layPlan_17 : decode cX6_layPlan 17 = .ok (.sipush 256, 3) := by decide +kernel
theorem dX6_layPlan_20 : decode cX6_layPlan 20 = .ok (.iload_n 1, 1) := by decide +kernel
theorem dX6_layPlan_21 : decode cX6_layPlan 21 = .ok (.imul, 1) := by decide +kernel
theorem dX6_layPlan_22 : decode cX6_layPlan 22 = .ok (.iload_n 2, 1) := by decide +kernel
theorem dX6_layPlan_23 : decode cX6_layPlan 23 = .ok (.iadd, 1) := by decide +kernel
theorem dX6_layPlan_24 : decode cX6_layPlan 24 = .ok (.iconst 0, 1) := by decide +kernel
theorem dX6_layPlan_25 : decode cX6_layPlan 25 = .ok (.iastore, 1) := by decide +kernel
theorem dX6_layPlan_26 : decode cX6_layPlan 26 = .ok (.iinc 2 1, 3) := by decide +kernel
theorem dX6_layPlan_29 : decode cX6_layPlan 29 = .ok (.goto (-23), 3) := by decide +kernel
theorem dX6_layPlan_32 : decode cX6_layPlan 32 = .ok (.iload_n 1, 1) := by decide +kernel
theorem dX6_layPlan_33 : decode cX6_layPlan 33 = .ok (.iconst 1, 1) := by decide +kernel
theorem dX6_layPlan_34 : decode cX6_layPlan 34 = .ok (.isub, 1) := by decide +kernel
theorem dX6_layPlan_35 : decode cX6_layPlan 35 = .ok (.istore_n 2, 1) := by decide +kernel
theorem dX6_layPlan_36 : decode cX6_layPlan 36 = .ok (.iload_n 2, 1) := by decide +kernel
theorem dX6_layPlan_37 : decode cX6_layPlan 37 = .ok (.ifCond .lt 91, 3) := by decide +kernel
theorem dX6_layPlan_40 : decode cX6_layPlan 40 = .ok (.iconst 0, 1) := by decide +kernel
theorem dX6_layPlan_41 : decode cX6_layPlan 41 = .ok (.istore_n 3, 1) := by decide +kernel
theorem dX6_layPlan_42 : decode cX6_layPlan 42 = .ok (.iload_n 3, 1) := by decide +kernel
theorem dX6_layPlan_43 : decode cX6_layPlan 43 = .ok (.iconst 1, 1) := by decide +kernel
theorem dX6_layPlan_44 : decode cX6_layPlan 44 = .ok (.aload_n 0, 1) := by decide +kernel
theorem dX6_layPlan_45 : decode cX6_layPlan 45 = .ok (.getfield 105, 3) := by decide +kernel
theorem dX6_layPlan_48 : decode cX6_layPlan 48 = .ok (.ishl, 1) := by decide +kernel
theorem dX6_layPlan_49 : decode cX6_layPlan 49 = .ok (.if_icmp .ge 73, 3) := by decide +kernel
theorem dX6_layPlan_52 : decode cX6_layPlan 52 = .ok (.ldc 122, 2) := by decide +kernel
theorem dX6_layPlan_54 : decode cX6_layPlan 54 = .ok (.istore 4, 2) := by decide +kernel
theorem dX6_layPlan_56 : decode cX6_layPlan 56 = .ok (.iconst 0, 1) := by decide +kernel
theorem dX6_layPlan_57 : decode cX6_layPlan 57 = .ok (.istore 5, 2) := by decide +kernel
theorem dX6_layPlan_59 : decode cX6_layPlan 59 = .ok (.iload 5, 2) := by decide +kernel
theorem dX6_layPlan_61 : decode cX6_layPlan 61 = .ok (.iconst 1, 1) := by decide +kernel
theorem dX6_layPlan_62 : decode cX6_layPlan 62 = .ok (.aload_n 0, 1) := by decide +kernel
theorem dX6_layPlan_63 : decode cX6_layPlan 63 = .ok (.getfield 105, 3) := by decide +kernel
theorem dX6_layPlan_66 : decode cX6_layPlan 66 = .ok (.ishl, 1) := by decide +kernel
theorem dX6_layPlan_67 : decode cX6_layPlan 67 = .ok (.if_icmp .ge 35, 3) := by decide +kernel
theorem dX6_layPlan_70 : decode cX6_layPlan 70 = .ok (.aload_n 0, 1) := by decide +kernel
theorem dX6_layPlan_71 : decode cX6_layPlan 71 = .ok (.iload_n 2, 1) := by decide +kernel
theorem dX6_layPlan_72 : decode cX6_layPlan 72 = .ok (.iload_n 3, 1) := by decide +kernel
theorem dX6_layPlan_73 : decode cX6_layPlan 73 = .ok (.iload 5, 2) := by decide +kernel
theorem dX6_layPlan_75 : decode cX6_layPlan 75 = .ok (.invokevirtual 126, 3) := by decide +kernel
theorem dX6_layPlan_78 : decode cX6_layPlan 78 = .ok (.istore 6, 2) := by decide +kernel
theorem dX6_layPlan_80 : decode cX6_layPlan 80 = .ok (.iload 6, 2) := by decide +kernel
theorem dX6_layPlan_82 : decode cX6_layPlan 82 = .ok (.iload 4, 2) := by decide +kernel
theorem dX6_layPlan_84 : decode cX6_layPlan 84 = .ok (.if_icmp .le 8, 3) := by decide +kernel
theorem dX6_layPlan_87 : decode cX6_layPlan 87 = .ok (.iload 6, 2) := by decide +kernel
theorem dX6_layPlan_89 : decode cX6_layPlan 89 = .ok (.goto 5, 3) := by decide +kernel
theorem dX6_layPlan_92 : decode cX6_layPlan 92 = .ok (.iload 4, 2) := by decide +kernel
theorem dX6_layPlan_94 : decode cX6_layPlan 94 = .ok (.istore 4, 2) := by decide +kernel
theorem dX6_layPlan_96 : decode cX6_layPlan 96 = .ok (.iinc 5 1, 3) := by decide +kernel
theorem dX6_layPlan_99 : decode cX6_layPlan 99 = .ok (.goto (-40), 3) := by decide +kernel
theorem dX6_layPlan_102 : decode cX6_layPlan 102 = .ok (.aload_n 0, 1) := by decide +kernel
theorem dX6_layPlan_103 : decode cX6_layPlan 103 = .ok (.getfield 65, 3) := by decide +kernel
theorem dX6_layPlan_106 : decode cX6_layPlan 106 = .ok (.sipush 256, 3) := by decide +kernel
theorem dX6_layPlan_109 : decode cX6_layPlan 109 = .ok (.iload_n 2, 1) := by decide +kernel
theorem dX6_layPlan_110 : decode cX6_layPlan 110 = .ok (.imul, 1) := by decide +kernel
theorem dX6_layPlan_111 : decode cX6_layPlan 111 = .ok (.iload_n 3, 1) := by decide +kernel
theorem dX6_layPlan_112 : decode cX6_layPlan 112 = .ok (.iadd, 1) := by decide +kernel
theorem dX6_layPlan_113 : decode cX6_layPlan 113 = .ok (.iload 4, 2) := by decide +kernel
theorem dX6_layPlan_115 : decode cX6_layPlan 115 = .ok (.iastore, 1) := by decide +kernel
theorem dX6_layPlan_116 : decode cX6_layPlan 116 = .ok (.iinc 3 1, 3) := by decide +kernel
theorem dX6_layPlan_119 : decode cX6_layPlan 119 = .ok (.goto (-77), 3) := by decide +kernel
theorem dX6_layPlan_122 : decode cX6_layPlan 122 = .ok (.iinc 2 (-1), 3) := by decide +kernel
theorem dX6_layPlan_125 : decode cX6_layPlan 125 = .ok (.goto (-89), 3) := by decide +kernel
theorem dX6_layPlan_128 : decode cX6_layPlan 128 = .ok (.aload_n 0, 1) := by decide +kernel
theorem dX6_layPlan_129 : decode cX6_layPlan 129 = .ok (.getfield 119, 3) := by decide +kernel
theorem dX6_layPlan_132 : decode cX6_layPlan 132 = .ok (.istore_n 2, 1) := by decide +kernel
theorem dX6_layPlan_133 : decode cX6_layPlan 133 = .ok (.iconst 0, 1) := by decide +kernel
theorem dX6_layPlan_134 : decode cX6_layPlan 134 = .ok (.istore_n 3, 1) := by decide +kernel
theorem dX6_layPlan_135 : decode cX6_layPlan 135 = .ok (.iload_n 3, 1) := by decide +kernel
theorem dX6_layPlan_136 : decode cX6_layPlan 136 = .ok (.iload_n 1, 1) := by decide +kernel
theorem dX6_layPlan_137 : decode cX6_layPlan 137 = .ok (.if_icmp .ge 52, 3) := by decide +kernel
theorem dX6_layPlan_140 : decode cX6_layPlan 140 = .ok (.iconst 0, 1) := by decide +kernel
theorem dX6_layPlan_141 : decode cX6_layPlan 141 = .ok (.istore 4, 2) := by decide +kernel
theorem dX6_layPlan_143 : decode cX6_layPlan 143 = .ok (.aload_n 0, 1) := by decide +kernel
theorem dX6_layPlan_144 : decode cX6_layPlan 144 = .ok (.iload_n 3, 1) := by decide +kernel
theorem dX6_layPlan_145 : decode cX6_layPlan 145 = .ok (.iload_n 2, 1) := by decide +kernel
theorem dX6_layPlan_146 : decode cX6_layPlan 146 = .ok (.iload 4, 2) := by decide +kernel
theorem dX6_layPlan_148 : decode cX6_layPlan 148 = .ok (.invokevirtual 126, 3) := by decide +kernel
theorem dX6_layPlan_151 : decode cX6_layPlan 151 = .ok (.aload_n 0, 1) := by decide +kernel
theorem dX6_layPlan_152 : decode cX6_layPlan 152 = .ok (.getfield 65, 3) := by decide +kernel
theorem dX6_layPlan_155 : decode cX6_layPlan 155 = .ok (.sipush 256, 3) := by decide +kernel
theorem dX6_layPlan_158 : decode cX6_layPlan 158 = .ok (.iload_n 3, 1) := by decide +kernel
theorem dX6_layPlan_159 : decode cX6_layPlan 159 = .ok (.imul, 1) := by decide +kernel
theorem dX6_layPlan_160 : decode cX6_layPlan 160 = .ok (.iload_n 2, 1) := by decide +kernel
theorem dX6_layPlan_161 : decode cX6_layPlan 161 = .ok (.iadd, 1) := by decide +kernel
theorem dX6_layPlan_162 : decode cX6_layPlan 162 = .ok (.iaload, 1) := by decide +kernel
theorem dX6_layPlan_163 : decode cX6_layPlan 163 = .ok (.if_icmp .eq 9, 3) := by decide +kernel
theorem dX6_layPlan_166 : decode cX6_layPlan 166 = .ok (.iinc 4 1, 3) := by decide +kernel
theorem dX6_layPlan_169 : decode cX6_layPlan 169 = .ok (.goto (-26), 3) := by decide +kernel
theorem dX6_layPlan_172 : decode cX6_layPlan 172 = .ok (.aload_n 0, 1) := by decide +kernel
theorem dX6_layPlan_173 : decode cX6_layPlan 173 = .ok (.getfield 78, 3) := by decide +kernel
theorem dX6_layPlan_176 : decode cX6_layPlan 176 = .ok (.iload_n 3, 1) := by decide +kernel
theorem dX6_layPlan_177 : decode cX6_layPlan 177 = .ok (.iload 4, 2) := by decide +kernel
theorem dX6_layPlan_179 : decode cX6_layPlan 179 = .ok (.iastore, 1) := by decide +kernel
theorem dX6_layPlan_180 : decode cX6_layPlan 180 = .ok (.iload 4, 2) := by decide +kernel
theorem dX6_layPlan_182 : decode cX6_layPlan 182 = .ok (.istore_n 2, 1) := by decide +kernel
theorem dX6_layPlan_183 : decode cX6_layPlan 183 = .ok (.iinc 3 1, 3) := by decide +kernel
theorem dX6_layPlan_186 : decode cX6_layPlan 186 = .ok (.goto (-51), 3) := by decide +kernel
theorem dX6_layPlan_189 : decode cX6_layPlan 189 = .ok (.aload_n 0, 1) := by decide +kernel
theorem dX6_layPlan_190 : decode cX6_layPlan 190 = .ok (.getfield 65, 3) := by decide +kernel
theorem dX6_layPlan_193 : decode cX6_layPlan 193 = .ok (.aload_n 0, 1) := by decide +kernel
theorem dX6_layPlan_194 : decode cX6_layPlan 194 = .ok (.getfield 119, 3) := by decide +kernel
theorem dX6_layPlan_197 : decode cX6_layPlan 197 = .ok (.iaload, 1) := by decide +kernel
theorem dX6_layPlan_198 : decode cX6_layPlan 198 = .ok (.ireturn, 1) := by decide +kernel
theorem dX6_plan_0 : decode cX6_plan 0 = .ok (.iload_n 1, 1) := by decide +kernel
theorem dX6_plan_1 : decode cX6_plan 1 = .ok (.iconst 1, 1) := by decide +kernel
theorem dX6_plan_2 : decode cX6_plan 2 = .ok (.bipush 6, 2) := by decide +kernel
theorem dX6_plan_4 : decode cX6_plan 4 = .ok (.invokestatic 108, 3) := by decide +kernel
theorem dX6_plan_7 : decode cX6_plan 7 = .ok (.ifCond .eq 11, 3) := by decide +kernel
theorem dX6_plan_10 : decode cX6_plan 10 = .ok (.aload_n 0, 1) := by decide +kernel
theorem dX6_plan_11 : decode cX6_plan 11 = .ok (.iload_n 1, 1) := by decide +kernel
theorem dX6_plan_12 : decode cX6_plan 12 = .ok (.invokevirtual 130, 3) := by decide +kernel
theorem dX6_plan_15 : decode cX6_plan 15 = .ok (.goto 5, 3) := by decide +kernel
theorem dX6_plan_18 : decode cX6_plan 18 = .ok (.ldc 134, 2) := by decide +kernel
theorem dX6_plan_20 : decode cX6_plan 20 = .ok (.ireturn, 1) := by decide +kernel
theorem dX6_shown_0 : decode cX6_shown 0 = .ok (.iload_n 1, 1) := by decide +kernel
theorem dX6_shown_1 : decode cX6_shown 1 = .ok (.iconst 1, 1) := by decide +kernel
theorem dX6_shown_2 : decode cX6_shown 2 = .ok (.bipush 6, 2) := by decide +kernel
theorem dX6_shown_4 : decode cX6_shown 4 = .ok (.invokestatic 108, 3) := by decide +kernel
theorem dX6_shown_7 : decode cX6_shown 7 = .ok (.ifCond .eq 14, 3) := by decide +kernel
theorem dX6_shown_10 : decode cX6_shown 10 = .ok (.iload_n 2, 1) := by decide +kernel
theorem dX6_shown_11 : decode cX6_shown 11 = .ok (.iconst 0, 1) := by decide +kernel
theorem dX6_shown_12 : decode cX6_shown 12 = .ok (.iload_n 1, 1) := by decide +kernel
theorem dX6_shown_13 : decode cX6_shown 13 = .ok (.iconst 1, 1) := by decide +kernel
theorem dX6_shown_14 : decode cX6_shown 14 = .ok (.isub, 1) := by decide +kernel
theorem dX6_shown_15 : decode cX6_shown 15 = .ok (.invokestatic 108, 3) := by decide +kernel
theorem dX6_shown_18 : decode cX6_shown 18 = .ok (.ifCond .ne 6, 3) := by decide +kernel
theorem dX6_shown_21 : decode cX6_shown 21 = .ok (.bipush (-2), 2) := by decide +kernel
theorem dX6_shown_23 : decode cX6_shown 23 = .ok (.ireturn, 1) := by decide +kernel
theorem dX6_shown_24 : decode cX6_shown 24 = .ok (.aload_n 0, 1) := by decide +kernel
theorem dX6_shown_25 : decode cX6_shown 25 = .ok (.iload_n 1, 1) := by decide +kernel
theorem dX6_shown_26 : decode cX6_shown 26 = .ok (.invokevirtual 130, 3) := by decide +kernel
theorem dX6_shown_29 : decode cX6_shown 29 = .ok (.istore_n 3, 1) := by decide +kernel
theorem dX6_shown_30 : decode cX6_shown 30 = .ok (.aload_n 0, 1) := by decide +kernel
theorem dX6_shown_31 : decode cX6_shown 31 = .ok (.getfield 78, 3) := by decide +kernel
theorem dX6_shown_34 : decode cX6_shown 34 = .ok (.iload_n 2, 1) := by decide +kernel
theorem dX6_shown_35 : decode cX6_shown 35 = .ok (.iaload, 1) := by decide +kernel
theorem dX6_shown_36 : decode cX6_shown 36 = .ok (.ireturn, 1) := by decide +kernel
theorem dX6_isMeasure_0 : decode cX6_isMeasure 0 = .ok (.aload_n 0, 1) := by decide +kernel
theorem dX6_isMeasure_1 : decode cX6_isMeasure 1 = .ok (.iload_n 1, 1) := by decide +kernel
theorem dX6_isMeasure_2 : decode cX6_isMeasure 2 = .ok (.invokevirtual 112, 3) := by decide +kernel
theorem dX6_isMeasure_5 : decode cX6_isMeasure 5 = .ok (.ifCond .eq 16, 3) := by decide +kernel
theorem dX6_isMeasure_8 : decode cX6_isMeasure 8 = .ok (.iload_n 2, 1) := by decide +kernel
theorem dX6_isMeasure_9 : decode cX6_isMeasure 9 = .ok (.iconst 0, 1) := by decide +kernel
theorem dX6_isMeasure_10 : decode cX6_isMeasure 10 = .ok (.iconst 3, 1) := by decide +kernel
theorem dX6_isMeasure_11 : decode cX6_isMeasure 11 = .ok (.invokestatic 108, 3) := by decide +kernel
theorem dX6_isMeasure_14 : decode cX6_isMeasure 14 = .ok (.ifCond .eq 7, 3) := by decide +kernel
theorem dX6_isMeasure_17 : decode cX6_isMeasure 17 = .ok (.iconst 1, 1) := by decide +kernel
theorem dX6_isMeasure_18 : decode cX6_isMeasure 18 = .ok (.goto 4, 3) := by decide +kernel
theorem dX6_isMeasure_21 : decode cX6_isMeasure 21 = .ok (.iconst 0, 1) := by decide +kernel
theorem dX6_isMeasure_22 : decode cX6_isMeasure 22 = .ok (.ireturn, 1) := by decide +kernel
theorem dX6_picture_0 : decode cX6_picture 0 = .ok (.aload_n 0, 1) := by decide +kernel
theorem dX6_picture_1 : decode cX6_picture 1 = .ok (.iload_n 1, 1) := by decide +kernel
theorem dX6_picture_2 : decode cX6_picture 2 = .ok (.iload_n 2, 1) := by decide +kernel
theorem dX6_picture_3 : decode cX6_picture 3 = .ok (.invokevirtual 135, 3) := by decide +kernel
theorem dX6_picture_6 : decode cX6_picture 6 = .ok (.ifCond .eq 26, 3) := by decide +kernel
theorem dX6_picture_9 : decode cX6_picture 9 = .ok (.iload_n 3, 1) := by decide +kernel
theorem dX6_picture_10 : decode cX6_picture 10 = .ok (.iconst 0, 1) := by decide +kernel
theorem dX6_picture_11 : decode cX6_picture 11 = .ok (.sipush 3000, 3) := by decide +kernel
theorem dX6_picture_14 : decode cX6_picture 14 = .ok (.invokestatic 108, 3) := by decide +kernel
theorem dX6_picture_17 : decode cX6_picture 17 = .ok (.ifCond .eq 15, 3) := by decide +kernel
theorem dX6_picture_20 : decode cX6_picture 20 = .ok (.iload 4, 2) := by decide +kernel
theorem dX6_picture_22 : decode cX6_picture 22 = .ok (.iload_n 3, 1) := by decide +kernel
theorem dX6_picture_23 : decode cX6_picture 23 = .ok (.sipush 3000, 3) := by decide +kernel
theorem dX6_picture_26 : decode cX6_picture 26 = .ok (.invokestatic 108, 3) := by decide +kernel
theorem dX6_picture_29 : decode cX6_picture 29 = .ok (.ifCond .ne 6, 3) := by decide +kernel
theorem dX6_picture_32 : decode cX6_picture 32 = .ok (.bipush (-2), 2) := by decide +kernel
theorem dX6_picture_34 : decode cX6_picture 34 = .ok (.ireturn, 1) := by decide +kernel
theorem dX6_picture_35 : decode cX6_picture 35 = .ok (.iconst 4, 1) := by decide +kernel
theorem dX6_picture_36 : decode cX6_picture 36 = .ok (.iload_n 1, 1) := by decide +kernel
theorem dX6_picture_37 : decode cX6_picture 37 = .ok (.imul, 1) := by decide +kernel
theorem dX6_picture_38 : decode cX6_picture 38 = .ok (.iload_n 2, 1) := by decide +kernel
theorem dX6_picture_39 : decode cX6_picture 39 = .ok (.iadd, 1) := by decide +kernel
theorem dX6_picture_40 : decode cX6_picture 40 = .ok (.istore 5, 2) := by decide +kernel
theorem dX6_picture_42 : decode cX6_picture 42 = .ok (.aload_n 0, 1) := by decide +kernel
theorem dX6_picture_43 : decode cX6_picture 43 = .ok (.getfield 34, 3) := by decide +kernel
theorem dX6_picture_46 : decode cX6_picture 46 = .ok (.iload 5, 2) := by decide +kernel
theorem dX6_picture_48 : decode cX6_picture 48 = .ok (.iaload, 1) := by decide +kernel
theorem dX6_picture_49 : decode cX6_picture 49 = .ok (.bipush 12, 2) := by decide +kernel
theorem dX6_picture_51 : decode cX6_picture 51 = .ok (.if_icmp .ne 6, 3) := by decide +kernel
theorem dX6_picture_54 : decode cX6_picture 54 = .ok (.bipush (-4), 2) := by decide +kernel
theorem dX6_picture_56 : decode cX6_picture 56 = .ok (.ireturn, 1) := by decide +kernel
theorem dX6_picture_57 : decode cX6_picture 57 = .ok (.aload_n 0, 1) := by decide +kernel
theorem dX6_picture_58 : decode cX6_picture 58 = .ok (.getfield 43, 3) := by decide +kernel
theorem dX6_picture_61 : decode cX6_picture 61 = .ok (.iload 5, 2) := by decide +kernel
theorem dX6_picture_63 : decode cX6_picture 63 = .ok (.iaload, 1) := by decide +kernel
theorem dX6_picture_64 : decode cX6_picture 64 = .ok (.iconst (-1), 1) := by decide +kernel
theorem dX6_picture_65 : decode cX6_picture 65 = .ok (.if_icmp .ne 96, 3) := by decide +kernel
theorem dX6_picture_68 : decode cX6_picture 68 = .ok (.iload_n 3, 1) := by decide +kernel
theorem dX6_picture_69 : decode cX6_picture 69 = .ok (.aload_n 0, 1) := by decide +kernel
theorem dX6_picture_70 : decode cX6_picture 70 = .ok (.getfield 37, 3) := by decide +kernel
theorem dX6_picture_73 : decode cX6_picture 73 = .ok (.iload 5, 2) := by decide +kernel
theorem dX6_picture_75 : decode cX6_picture 75 = .ok (.iaload, 1) := by decide +kernel
theorem dX6_picture_76 : decode cX6_picture 76 = .ok (.if_icmp .le 7, 3) := by decide +kernel
theorem dX6_picture_79 : decode cX6_picture 79 = .ok (.iload_n 3, 1) := by decide +kernel
theorem dX6_picture_80 : decode cX6_picture 80 = .ok (.goto 10, 3) := by decide +kernel
theorem dX6_picture_83 : decode cX6_picture 83 = .ok (.aload_n 0, 1) := by decide +kernel
theorem dX6_picture_84 : decode cX6_picture 84 = .ok (.getfield 37, 3) := by decide +kernel
theorem dX6_picture_87 : decode cX6_picture 87 = .ok (.iload 5, 2) := by decide +kernel
theorem dX6_picture_89 : decode cX6_picture 89 = .ok (.iaload, 1) := by decide +kernel
theorem dX6_picture_90 : decode cX6_picture 90 = .ok (.istore 6, 2) := by decide +kernel
theorem dX6_picture_92 : decode cX6_picture 92 = .ok (.iload 4, 2) := by decide +kernel
theorem dX6_picture_94 : decode cX6_picture 94 = .ok (.aload_n 0, 1) := by decide +kernel
theorem dX6_picture_95 : decode cX6_picture 95 = .ok (.getfield 40, 3) := by decide +kernel
theorem dX6_picture_98 : decode cX6_picture 98 = .ok (.iload 5, 2) := by decide +kernel
theorem dX6_picture_100 : decode cX6_picture 100 = .ok (.iaload, 1) := by decide +kernel
theorem dX6_picture_101 : decode cX6_picture 101 = .ok (.if_icmp .ge 8, 3) := by decide +kernel
theorem dX6_picture_104 : decode cX6_picture 104 = .ok (.iload 4, 2) := by decide +kernel
theorem dX6_picture_106 : decode cX6_picture 106 = .ok (.goto 10, 3) := by decide +kernel
theorem dX6_picture_109 : decode cX6_picture 109 = .ok (.aload_n 0, 1) := by decide +kernel
theorem dX6_picture_110 : decode cX6_picture 110 = .ok (.getfield 40, 3) := by decide +kernel
theorem dX6_picture_113 : decode cX6_picture 113 = .ok (.iload 5, 2) := by decide +kernel
theorem dX6_picture_115 : decode cX6_picture 115 = .ok (.iaload, 1) := by decide +kernel
theorem dX6_picture_116 : decode cX6_picture 116 = .ok (.istore 7, 2) := by decide +kernel
theorem dX6_picture_118 : decode cX6_picture 118 = .ok (.aload_n 0, 1) := by decide +kernel
theorem dX6_picture_119 : decode cX6_picture 119 = .ok (.getfield 37, 3) := by decide +kernel
theorem dX6_picture_122 : decode cX6_picture 122 = .ok (.iload 5, 2) := by decide +kernel
theorem dX6_picture_124 : decode cX6_picture 124 = .ok (.iload 6, 2) := by decide +kernel
theorem dX6_picture_126 : decode cX6_picture 126 = .ok (.iastore, 1) := by decide +kernel
theorem dX6_picture_127 : decode cX6_picture 127 = .ok (.aload_n 0, 1) := by decide +kernel
theorem dX6_picture_128 : decode cX6_picture 128 = .ok (.getfield 40, 3) := by decide +kernel
theorem dX6_picture_131 : decode cX6_picture 131 = .ok (.iload 5, 2) := by decide +kernel
theorem dX6_picture_133 : decode cX6_picture 133 = .ok (.iload 7, 2) := by decide +kernel
theorem dX6_picture_135 : decode cX6_picture 135 = .ok (.iastore, 1) := by decide +kernel
theorem dX6_picture_136 : decode cX6_picture 136 = .ok (.aload_n 0, 1) := by decide +kernel
theorem dX6_picture_137 : decode cX6_picture 137 = .ok (.getfield 43, 3) := by decide +kernel
theorem dX6_picture_140 : decode cX6_picture 140 = .ok (.iload 5, 2) := by decide +kernel
theorem dX6_picture_142 : decode cX6_picture 142 = .ok (.iload 6, 2) := by decide +kernel
theorem dX6_picture_144 : decode cX6_picture 144 = .ok (.iload 7, 2) := by decide +kernel
theorem dX6_picture_146 : decode cX6_picture 146 = .ok (.if_icmp .le 13, 3) := by decide +kernel
theorem dX6_picture_149 : decode cX6_picture 149 = .ok (.aload_n 0, 1) := by decide +kernel
theorem dX6_picture_150 : decode cX6_picture 150 = .ok (.getfield 34, 3) := by decide +kernel
theorem dX6_picture_153 : decode cX6_picture 153 = .ok (.iload 5, 2) := by decide +kernel
theorem dX6_picture_155 : decode cX6_picture 155 = .ok (.iaload, 1) := by decide +kernel
theorem dX6_picture_156 : decode cX6_picture 156 = .ok (.goto 4, 3) := by decide +kernel
theorem dX6_picture_159 : decode cX6_picture 159 = .ok (.iconst (-1), 1) := by decide +kernel
theorem dX6_picture_160 : decode cX6_picture 160 = .ok (.iastore, 1) := by decide +kernel
theorem dX6_picture_161 : decode cX6_picture 161 = .ok (.aload_n 0, 1) := by decide +kernel
theorem dX6_picture_162 : decode cX6_picture 162 = .ok (.getfield 34, 3) := by decide +kernel
theorem dX6_picture_165 : decode cX6_picture 165 = .ok (.iload 5, 2) := by decide +kernel
theorem dX6_picture_167 : decode cX6_picture 167 = .ok (.dup2, 1) := by decide +kernel
theorem dX6_picture_168 : decode cX6_picture 168 = .ok (.iaload, 1) := by decide +kernel
theorem dX6_picture_169 : decode cX6_picture 169 = .ok (.iconst 1, 1) := by decide +kernel
theorem dX6_picture_170 : decode cX6_picture 170 = .ok (.iadd, 1) := by decide +kernel
theorem dX6_picture_171 : decode cX6_picture 171 = .ok (.iastore, 1) := by decide +kernel
theorem dX6_picture_172 : decode cX6_picture 172 = .ok (.aload_n 0, 1) := by decide +kernel
theorem dX6_picture_173 : decode cX6_picture 173 = .ok (.getfield 34, 3) := by decide +kernel
theorem dX6_picture_176 : decode cX6_picture 176 = .ok (.iload 5, 2) := by decide +kernel
theorem dX6_picture_178 : decode cX6_picture 178 = .ok (.iaload, 1) := by decide +kernel
theorem dX6_picture_179 : decode cX6_picture 179 = .ok (.ireturn, 1) := by decide +kernel
theorem dX6_spanOf_0 : decode cX6_spanOf 0 = .ok (.iconst 4, 1) := by decide +kernel
theorem dX6_spanOf_1 : decode cX6_spanOf 1 = .ok (.iload_n 1, 1) := by decide +kernel
theorem dX6_spanOf_2 : decode cX6_spanOf 2 = .ok (.imul, 1) := by decide +kernel
theorem dX6_spanOf_3 : decode cX6_spanOf 3 = .ok (.iload_n 2, 1) := by decide +kernel
theorem dX6_spanOf_4 : decode cX6_spanOf 4 = .ok (.iadd, 1) := by decide +kernel
theorem dX6_spanOf_5 : decode cX6_spanOf 5 = .ok (.istore 4, 2) := by decide +kernel
theorem dX6_spanOf_7 : decode cX6_spanOf 7 = .ok (.aload_n 0, 1) := by decide +kernel
theorem dX6_spanOf_8 : decode cX6_spanOf 8 = .ok (.getfield 43, 3) := by decide +kernel
theorem dX6_spanOf_11 : decode cX6_spanOf 11 = .ok (.iload 4, 2) := by decide +kernel
theorem dX6_spanOf_13 : decode cX6_spanOf 13 = .ok (.iaload, 1) := by decide +kernel
theorem dX6_spanOf_14 : decode cX6_spanOf 14 = .ok (.iconst (-1), 1) := by decide +kernel
theorem dX6_spanOf_15 : decode cX6_spanOf 15 = .ok (.if_icmp .eq 7, 3) := by decide +kernel
theorem dX6_spanOf_18 : decode cX6_spanOf 18 = .ok (.iconst (-1), 1) := by decide +kernel
theorem dX6_spanOf_19 : decode cX6_spanOf 19 = .ok (.goto 24, 3) := by decide +kernel
theorem dX6_spanOf_22 : decode cX6_spanOf 22 = .ok (.iload_n 3, 1) := by decide +kernel
theorem dX6_spanOf_23 : decode cX6_spanOf 23 = .ok (.ifCond .ne 13, 3) := by decide +kernel
theorem dX6_spanOf_26 : decode cX6_spanOf 26 = .ok (.aload_n 0, 1) := by decide +kernel
theorem dX6_spanOf_27 : decode cX6_spanOf 27 = .ok (.getfield 37, 3) := by decide +kernel
theorem dX6_spanOf_30 : decode cX6_spanOf 30 = .ok (.iload 4, 2) := by decide +kernel
theorem dX6_spanOf_32 : decode cX6_spanOf 32 = .ok (.iaload, 1) := by decide +kernel
theorem dX6_spanOf_33 : decode cX6_spanOf 33 = .ok (.goto 10, 3) := by decide +kernel
theorem dX6_spanOf_36 : decode cX6_spanOf 36 = .ok (.aload_n 0, 1) := by decide +kernel
theorem dX6_spanOf_37 : decode cX6_spanOf 37 = .ok (.getfield 40, 3) := by decide +kernel
theorem dX6_spanOf_40 : decode cX6_spanOf 40 = .ok (.iload 4, 2) := by decide +kernel
theorem dX6_spanOf_42 : decode cX6_spanOf 42 = .ok (.iaload, 1) := by decide +kernel
theorem dX6_spanOf_43 : decode cX6_spanOf 43 = .ok (.ireturn, 1) := by decide +kernel
theorem dX6_span_0 : decode cX6_span 0 = .ok (.aload_n 0, 1) := by decide +kernel
theorem dX6_span_1 : decode cX6_span 1 = .ok (.iload_n 1, 1) := by decide +kernel
theorem dX6_span_2 : decode cX6_span 2 = .ok (.iload_n 2, 1) := by decide +kernel
theorem dX6_span_3 : decode cX6_span 3 = .ok (.invokevirtual 135, 3) := by decide +kernel
theorem dX6_span_6 : decode cX6_span 6 = .ok (.ifCond .eq 22, 3) := by decide +kernel
theorem dX6_span_9 : decode cX6_span 9 = .ok (.iload_n 3, 1) := by decide +kernel
theorem dX6_span_10 : decode cX6_span 10 = .ok (.iconst 0, 1) := by decide +kernel
theorem dX6_span_11 : decode cX6_span 11 = .ok (.iconst 1, 1) := by decide +kernel
theorem dX6_span_12 : decode cX6_span 12 = .ok (.invokestatic 108, 3) := by decide +kernel
theorem dX6_span_15 : decode cX6_span 15 = .ok (.ifCond .eq 13, 3) := by decide +kernel
theorem dX6_span_18 : decode cX6_span 18 = .ok (.aload_n 0, 1) := by decide +kernel
theorem dX6_span_19 : decode cX6_span 19 = .ok (.iload_n 1, 1) := by decide +kernel
theorem dX6_span_20 : decode cX6_span 20 = .ok (.iload_n 2, 1) := by decide +kernel
theorem dX6_span_21 : decode cX6_span 21 = .ok (.iload_n 3, 1) := by decide +kernel
theorem dX6_span_22 : decode cX6_span 22 = .ok (.invokevirtual 139, 3) := by decide +kernel
theorem dX6_span_25 : decode cX6_span 25 = .ok (.goto 5, 3) := by decide +kernel
theorem dX6_span_28 : decode cX6_span 28 = .ok (.bipush (-2), 2) := by decide +kernel
theorem dX6_span_30 : decode cX6_span 30 = .ok (.ireturn, 1) := by decide +kernel
theorem dX6_wrong_0 : decode cX6_wrong 0 = .ok (.aload_n 0, 1) := by decide +kernel
theorem dX6_wrong_1 : decode cX6_wrong 1 = .ok (.iload_n 1, 1) := by decide +kernel
theorem dX6_wrong_2 : decode cX6_wrong 2 = .ok (.iload_n 2, 1) := by decide +kernel
theorem dX6_wrong_3 : decode cX6_wrong 3 = .ok (.invokevirtual 135, 3) := by decide +kernel
theorem dX6_wrong_6 : decode cX6_wrong 6 = .ok (.ifCond .eq 16, 3) := by decide +kernel
theorem dX6_wrong_9 : decode cX6_wrong 9 = .ok (.aload_n 0, 1) := by decide +kernel
theorem dX6_wrong_10 : decode cX6_wrong 10 = .ok (.getfield 43, 3) := by decide +kernel
theorem dX6_wrong_13 : decode cX6_wrong 13 = .ok (.iconst 4, 1) := by decide +kernel
theorem dX6_wrong_14 : decode cX6_wrong 14 = .ok (.iload_n 1, 1) := by decide +kernel
theorem dX6_wrong_15 : decode cX6_wrong 15 = .ok (.imul, 1) := by decide +kernel
theorem dX6_wrong_16 : decode cX6_wrong 16 = .ok (.iload_n 2, 1) := by decide +kernel
theorem dX6_wrong_17 : decode cX6_wrong 17 = .ok (.iadd, 1) := by decide +kernel
theorem dX6_wrong_18 : decode cX6_wrong 18 = .ok (.iaload, 1) := by decide +kernel
theorem dX6_wrong_19 : decode cX6_wrong 19 = .ok (.goto 5, 3) := by decide +kernel
theorem dX6_wrong_22 : decode cX6_wrong 22 = .ok (.bipush (-2), 2) := by decide +kernel
theorem dX6_wrong_24 : decode cX6_wrong 24 = .ok (.ireturn, 1) := by decide +kernel
theorem dX6_days_0 : decode cX6_days 0 = .ok (.aload_n 0, 1) := by decide +kernel
theorem dX6_days_1 : decode cX6_days 1 = .ok (.iload_n 1, 1) := by decide +kernel
theorem dX6_days_2 : decode cX6_days 2 = .ok (.invokevirtual 112, 3) := by decide +kernel
theorem dX6_days_5 : decode cX6_days 5 = .ok (.ifCond .eq 22, 3) := by decide +kernel
theorem dX6_days_8 : decode cX6_days 8 = .ok (.iload_n 2, 1) := by decide +kernel
theorem dX6_days_9 : decode cX6_days 9 = .ok (.iconst 0, 1) := by decide +kernel
theorem dX6_days_10 : decode cX6_days 10 = .ok (.iconst 3, 1) := by decide +kernel
theorem dX6_days_11 : decode cX6_days 11 = .ok (.invokestatic 108, 3) := by decide +kernel
theorem dX6_days_14 : decode cX6_days 14 = .ok (.ifCond .eq 13, 3) := by decide +kernel
theorem dX6_days_17 : decode cX6_days 17 = .ok (.iload_n 3, 1) := by decide +kernel
theorem dX6_days_18 : decode cX6_days 18 = .ok (.iconst 0, 1) := by decide +kernel
theorem dX6_days_19 : decode cX6_days 19 = .ok (.bipush 50, 2) := by decide +kernel
theorem dX6_days_21 : decode cX6_days 21 = .ok (.invokestatic 108, 3) := by decide +kernel
theorem dX6_days_24 : decode cX6_days 24 = .ok (.ifCond .ne 6, 3) := by decide +kernel
theorem dX6_days_27 : decode cX6_days 27 = .ok (.bipush (-2), 2) := by decide +kernel
theorem dX6_days_29 : decode cX6_days 29 = .ok (.ireturn, 1) := by decide +kernel
theorem dX6_days_30 : decode cX6_days 30 = .ok (.aload_n 0, 1) := by decide +kernel
theorem dX6_days_31 : decode cX6_days 31 = .ok (.getfield 31, 3) := by decide +kernel
theorem dX6_days_34 : decode cX6_days 34 = .ok (.iconst 4, 1) := by decide +kernel
theorem dX6_days_35 : decode cX6_days 35 = .ok (.iload_n 1, 1) := by decide +kernel
theorem dX6_days_36 : decode cX6_days 36 = .ok (.imul, 1) := by decide +kernel
theorem dX6_days_37 : decode cX6_days 37 = .ok (.iload_n 2, 1) := by decide +kernel
theorem dX6_days_38 : decode cX6_days 38 = .ok (.iadd, 1) := by decide +kernel
theorem dX6_days_39 : decode cX6_days 39 = .ok (.iaload, 1) := by decide +kernel
theorem dX6_days_40 : decode cX6_days 40 = .ok (.istore 4, 2) := by decide +kernel
theorem dX6_days_42 : decode cX6_days 42 = .ok (.aload_n 0, 1) := by decide +kernel
theorem dX6_days_43 : decode cX6_days 43 = .ok (.getfield 31, 3) := by decide +kernel
theorem dX6_days_46 : decode cX6_days 46 = .ok (.iconst 4, 1) := by decide +kernel
theorem dX6_days_47 : decode cX6_days 47 = .ok (.iload_n 1, 1) := by decide +kernel
theorem dX6_days_48 : decode cX6_days 48 = .ok (.imul, 1) := by decide +kernel
theorem dX6_days_49 : decode cX6_days 49 = .ok (.iload_n 2, 1) := by decide +kernel
theorem dX6_days_50 : decode cX6_days 50 = .ok (.iadd, 1) := by decide +kernel
theorem dX6_days_51 : decode cX6_days 51 = .ok (.iload_n 3, 1) := by decide +kernel
theorem dX6_days_52 : decode cX6_days 52 = .ok (.iastore, 1) := by decide +kernel
theorem dX6_days_53 : decode cX6_days 53 = .ok (.iload 4, 2) := by decide +kernel
theorem dX6_days_55 : decode cX6_days 55 = .ok (.ireturn, 1) := by decide +kernel
theorem dX6_lastDay_0 : decode cX6_lastDay 0 = .ok (.iconst 0, 1) := by decide +kernel
theorem dX6_lastDay_1 : decode cX6_lastDay 1 = .ok (.istore_n 1, 1) := by decide +kernel
theorem dX6_lastDay_2 : decode cX6_lastDay 2 = .ok (.iload_n 1, 1) := by decide +kernel
theorem dX6_lastDay_3 : decode cX6_lastDay 3 = .ok (.iconst 4, 1) := by decide +kernel
theorem dX6_lastDay_4 : decode cX6_lastDay 4 = .ok (.if_icmp .ge 16, 3) := by decide +kernel
theorem dX6_lastDay_7 : decode cX6_lastDay 7 = .ok (.aload_n 0, 1) := by decide +kernel
theorem dX6_lastDay_8 : decode cX6_lastDay 8 = .ok (.getfield 87, 3) := by decide +kernel
theorem dX6_lastDay_11 : decode cX6_lastDay 11 = .ok (.iload_n 1, 1) := by decide +kernel
theorem dX6_lastDay_12 : decode cX6_lastDay 12 = .ok (.iconst 0, 1) := by decide +kernel
theorem dX6_lastDay_13 : decode cX6_lastDay 13 = .ok (.iastore, 1) := by decide +kernel
theorem dX6_lastDay_14 : decode cX6_lastDay 14 = .ok (.iinc 1 1, 3) := by decide +kernel
theorem dX6_lastDay_17 : decode cX6_lastDay 17 = .ok (.goto (-15), 3) := by decide +kernel
theorem dX6_lastDay_20 : decode cX6_lastDay 20 = .ok (.iconst 0, 1) := by decide +kernel
theorem dX6_lastDay_21 : decode cX6_lastDay 21 = .ok (.istore_n 1, 1) := by decide +kernel
theorem dX6_lastDay_22 : decode cX6_lastDay 22 = .ok (.iload_n 1, 1) := by decide +kernel
theorem dX6_lastDay_23 : decode cX6_lastDay 23 = .ok (.aload_n 0, 1) := by decide +kernel
theorem dX6_lastDay_24 : decode cX6_lastDay 24 = .ok (.getfield 142, 3) := by decide +kernel
theorem dX6_lastDay_27 : decode cX6_lastDay 27 = .ok (.if_icmp .ge 72, 3) := by decide +kernel
theorem dX6_lastDay_30 : decode cX6_lastDay 30 = .ok (.iconst 0, 1) := by decide +kernel
theorem dX6_lastDay_31 : decode cX6_lastDay 31 = .ok (.istore_n 2, 1) := by decide +kernel
theorem dX6_lastDay_32 : decode cX6_lastDay 32 = .ok (.iconst 0, 1) := by decide +kernel
theorem dX6_lastDay_33 : decode cX6_lastDay 33 = .ok (.istore_n 3, 1) := by decide +kernel
theorem dX6_lastDay_34 : decode cX6_lastDay 34 = .ok (.iload_n 3, 1) := by decide +kernel
theorem dX6_lastDay_35 : decode cX6_lastDay 35 = .ok (.iconst 4, 1) := by decide +kernel
theorem dX6_lastDay_36 : decode cX6_lastDay 36 = .ok (.if_icmp .ge 57, 3) := by decide +kernel
theorem dX6_lastDay_39 : decode cX6_lastDay 39 = .ok (.aload_n 0, 1) := by decide +kernel
theorem dX6_lastDay_40 : decode cX6_lastDay 40 = .ok (.getfield 87, 3) := by decide +kernel
theorem dX6_lastDay_43 : decode cX6_lastDay 43 = .ok (.iload_n 3, 1) := by decide +kernel
theorem dX6_lastDay_44 : decode cX6_lastDay 44 = .ok (.iaload, 1) := by decide +kernel
theorem dX6_lastDay_45 : decode cX6_lastDay 45 = .ok (.iload_n 2, 1) := by decide +kernel
theorem dX6_lastDay_46 : decode cX6_lastDay 46 = .ok (.if_icmp .le 12, 3) := by decide +kernel
theorem dX6_lastDay_49 : decode cX6_lastDay 49 = .ok (.aload_n 0, 1) := by decide +kernel
theorem dX6_lastDay_50 : decode cX6_lastDay 50 = .ok (.getfield 87, 3) := by decide +kernel
theorem dX6_lastDay_53 : decode cX6_lastDay 53 = .ok (.iload_n 3, 1) := by decide +kernel
theorem dX6_lastDay_54 : decode cX6_lastDay 54 = .ok (.iaload, 1) := by decide +kernel
theorem dX6_lastDay_55 : decode cX6_lastDay 55 = .ok (.goto 4, 3) := by decide +kernel
theorem dX6_lastDay_58 : decode cX6_lastDay 58 = .ok (.iload_n 2, 1) := by decide +kernel
theorem dX6_lastDay_59 : decode cX6_lastDay 59 = .ok (.istore 4, 2) := by decide +kernel
theorem dX6_lastDay_61 : decode cX6_lastDay 61 = .ok (.iload 4, 2) := by decide +kernel
theorem dX6_lastDay_63 : decode cX6_lastDay 63 = .ok (.aload_n 0, 1) := by decide +kernel
theorem dX6_lastDay_64 : decode cX6_lastDay 64 = .ok (.getfield 31, 3) := by decide +kernel
theorem dX6_lastDay_67 : decode cX6_lastDay 67 = .ok (.iconst 4, 1) := by decide +kernel
theorem dX6_lastDay_68 : decode cX6_lastDay 68 = .ok (.aload_n 0, 1) := by decide +kernel
theorem dX6_lastDay_69 : decode cX6_lastDay 69 = .ok (.getfield 81, 3) := by decide +kernel
theorem dX6_lastDay_72 : decode cX6_lastDay 72 = .ok (.iload_n 1, 1) := by decide +kernel
theorem dX6_lastDay_73 : decode cX6_lastDay 73 = .ok (.iaload, 1) := by decide +kernel
theorem dX6_lastDay_74 : decode cX6_lastDay 74 = .ok (.imul, 1) := by decide +kernel
theorem dX6_lastDay_75 : decode cX6_lastDay 75 = .ok (.iload_n 3, 1) := by decide +kernel
theorem dX6_lastDay_76 : decode cX6_lastDay 76 = .ok (.iadd, 1) := by decide +kernel
theorem dX6_lastDay_77 : decode cX6_lastDay 77 = .ok (.iaload, 1) := by decide +kernel
theorem dX6_lastDay_78 : decode cX6_lastDay 78 = .ok (.iadd, 1) := by decide +kernel
theorem dX6_lastDay_79 : decode cX6_lastDay 79 = .ok (.istore_n 2, 1) := by decide +kernel
theorem dX6_lastDay_80 : decode cX6_lastDay 80 = .ok (.aload_n 0, 1) := by decide +kernel
theorem dX6_lastDay_81 : decode cX6_lastDay 81 = .ok (.getfield 87, 3) := by decide +kernel
theorem dX6_lastDay_84 : decode cX6_lastDay 84 = .ok (.iload_n 3, 1) := by decide +kernel
theorem dX6_lastDay_85 : decode cX6_lastDay 85 = .ok (.iload_n 2, 1) := by decide +kernel
theorem dX6_lastDay_86 : decode cX6_lastDay 86 = .ok (.iastore, 1) := by decide +kernel
theorem dX6_lastDay_87 : decode cX6_lastDay 87 = .ok (.iinc 3 1, 3) := by decide +kernel
theorem dX6_lastDay_90 : decode cX6_lastDay 90 = .ok (.goto (-56), 3) := by decide +kernel
theorem dX6_lastDay_93 : decode cX6_lastDay 93 = .ok (.iinc 1 1, 3) := by decide +kernel
theorem dX6_lastDay_96 : decode cX6_lastDay 96 = .ok (.goto (-74), 3) := by decide +kernel
theorem dX6_lastDay_99 : decode cX6_lastDay 99 = .ok (.aload_n 0, 1) := by decide +kernel
theorem dX6_lastDay_100 : decode cX6_lastDay 100 = .ok (.getfield 87, 3) := by decide +kernel
theorem dX6_lastDay_103 : decode cX6_lastDay 103 = .ok (.iconst 3, 1) := by decide +kernel
theorem dX6_lastDay_104 : decode cX6_lastDay 104 = .ok (.iaload, 1) := by decide +kernel
theorem dX6_lastDay_105 : decode cX6_lastDay 105 = .ok (.ireturn, 1) := by decide +kernel
theorem dX6_swap_0 : decode cX6_swap 0 = .ok (.aload_n 0, 1) := by decide +kernel
theorem dX6_swap_1 : decode cX6_swap 1 = .ok (.getfield 81, 3) := by decide +kernel
theorem dX6_swap_4 : decode cX6_swap 4 = .ok (.iload_n 1, 1) := by decide +kernel
theorem dX6_swap_5 : decode cX6_swap 5 = .ok (.iaload, 1) := by decide +kernel
theorem dX6_swap_6 : decode cX6_swap 6 = .ok (.istore_n 3, 1) := by decide +kernel
theorem dX6_swap_7 : decode cX6_swap 7 = .ok (.aload_n 0, 1) := by decide +kernel
theorem dX6_swap_8 : decode cX6_swap 8 = .ok (.getfield 81, 3) := by decide +kernel
theorem dX6_swap_11 : decode cX6_swap 11 = .ok (.iload_n 1, 1) := by decide +kernel
theorem dX6_swap_12 : decode cX6_swap 12 = .ok (.aload_n 0, 1) := by decide +kernel
theorem dX6_swap_13 : decode cX6_swap 13 = .ok (.getfield 81, 3) := by decide +kernel
theorem dX6_swap_16 : decode cX6_swap 16 = .ok (.iload_n 2, 1) := by decide +kernel
theorem dX6_swap_17 : decode cX6_swap 17 = .ok (.iaload, 1) := by decide +kernel
theorem dX6_swap_18 : decode cX6_swap 18 = .ok (.iastore, 1) := by decide +kernel
theorem dX6_swap_19 : decode cX6_swap 19 = .ok (.aload_n 0, 1) := by decide +kernel
theorem dX6_swap_20 : decode cX6_swap 20 = .ok (.getfield 81, 3) := by decide +kernel
theorem dX6_swap_23 : decode cX6_swap 23 = .ok (.iload_n 2, 1) := by decide +kernel
theorem dX6_swap_24 : decode cX6_swap 24 = .ok (.iload_n 3, 1) := by decide +kernel
theorem dX6_swap_25 : decode cX6_swap 25 = .ok (.iastore, 1) := by decide +kernel
theorem dX6_swap_26 : decode cX6_swap 26 = .ok (.return_, 1) := by decide +kernel
theorem dX6_next_0 : decode cX6_next 0 = .ok (.aload_n 0, 1) := by decide +kernel
theorem dX6_next_1 : decode cX6_next 1 = .ok (.getfield 142, 3) := by decide +kernel
theorem dX6_next_4 : decode cX6_next 4 = .ok (.iconst 2, 1) := by decide +kernel
theorem dX6_next_5 : decode cX6_next 5 = .ok (.isub, 1) := by decide +kernel
theorem dX6_next_6 : decode cX6_next 6 = .ok (.istore_n 1, 1) := by decide +kernel
theorem dX6_next_7 : decode cX6_next 7 = .ok (.iload_n 1, 1) := by decide +kernel
theorem dX6_next_8 : decode cX6_next 8 = .ok (.ifCond .lt 26, 3) := by decide +kernel
theorem dX6_next_11 : decode cX6_next 11 = .ok (.aload_n 0, 1) := by decide +kernel
theorem dX6_next_12 : decode cX6_next 12 = .ok (.getfield 81, 3) := by decide +kernel
theorem dX6_next_15 : decode cX6_next 15 = .ok (.iload_n 1, 1) := by decide +kernel
theorem dX6_next_16 : decode cX6_next 16 = .ok (.iaload, 1) := by decide +kernel
theorem dX6_next_17 : decode cX6_next 17 = .ok (.aload_n 0, 1) := by decide +kernel
theorem dX6_next_18 : decode cX6_next 18 = .ok (.getfield 81, 3) := by decide +kernel
theorem dX6_next_21 : decode cX6_next 21 = .ok (.iload_n 1, 1) := by decide +kernel
theorem dX6_next_22 : decode cX6_next 22 = .ok (.iconst 1, 1) := by decide +kernel
theorem dX6_next_23 : decode cX6_next 23 = .ok (.iadd, 1) := by decide +kernel
theorem dX6_next_24 : decode cX6_next 24 = .ok (.iaload, 1) := by decide +kernel
theorem dX6_next_25 : decode cX6_next 25 = .ok (.if_icmp .le 9, 3) := by decide +kernel
theorem dX6_next_28 : decode cX6_next 28 = .ok (.iinc 1 (-1), 3) := by decide +kernel
theorem dX6_next_31 : decode cX6_next 31 = .ok (.goto (-24), 3) := by decide +kernel
theorem dX6_next_34 : decode cX6_next 34 = .ok (.iload_n 1, 1) := by decide +kernel
theorem dX6_next_35 : decode cX6_next 35 = .ok (.ifCond .ge 5, 3) := by decide +kernel
theorem dX6_next_38 : decode cX6_next 38 = .ok (.iconst 0, 1) := by decide +kernel
theorem dX6_next_39 : decode cX6_next 39 = .ok (.ireturn, 1) := by decide +kernel
theorem dX6_next_40 : decode cX6_next 40 = .ok (.aload_n 0, 1) := by decide +kernel
theorem dX6_next_41 : decode cX6_next 41 = .ok (.getfield 142, 3) := by decide +kernel
theorem dX6_next_44 : decode cX6_next 44 = .ok (.iconst 1, 1) := by decide +kernel
theorem dX6_next_45 : decode cX6_next 45 = .ok (.isub, 1) := by decide +kernel
theorem dX6_next_46 : decode cX6_next 46 = .ok (.istore_n 2, 1) := by decide +kernel
theorem dX6_next_47 : decode cX6_next 47 = .ok (.aload_n 0, 1) := by decide +kernel
theorem dX6_next_48 : decode cX6_next 48 = .ok (.getfield 81, 3) := by decide +kernel
theorem dX6_next_51 : decode cX6_next 51 = .ok (.iload_n 2, 1) := by decide +kernel
theorem dX6_next_52 : decode cX6_next 52 = .ok (.iaload, 1) := by decide +kernel
theorem dX6_next_53 : decode cX6_next 53 = .ok (.aload_n 0, 1) := by decide +kernel
theorem dX6_next_54 : decode cX6_next 54 = .ok (.getfield 81, 3) := by decide +kernel
theorem dX6_next_57 : decode cX6_next 57 = .ok (.iload_n 1, 1) := by decide +kernel
theorem dX6_next_58 : decode cX6_next 58 = .ok (.iaload, 1) := by decide +kernel
theorem dX6_next_59 : decode cX6_next 59 = .ok (.if_icmp .ge 9, 3) := by decide +kernel
theorem dX6_next_62 : decode cX6_next 62 = .ok (.iinc 2 (-1), 3) := by decide +kernel
theorem dX6_next_65 : decode cX6_next 65 = .ok (.goto (-18), 3) := by decide +kernel
theorem dX6_next_68 : decode cX6_next 68 = .ok (.aload_n 0, 1) := by decide +kernel
theorem dX6_next_69 : decode cX6_next 69 = .ok (.iload_n 1, 1) := by decide +kernel
theorem dX6_next_70 : decode cX6_next 70 = .ok (.iload_n 2, 1) := by decide +kernel
theorem dX6_next_71 : decode cX6_next 71 = .ok (.invokevirtual 145, 3) := by decide +kernel
theorem dX6_next_74 : decode cX6_next 74 = .ok (.iload_n 1, 1) := by decide +kernel
theorem dX6_next_75 : decode cX6_next 75 = .ok (.iconst 1, 1) := by decide +kernel
theorem dX6_next_76 : decode cX6_next 76 = .ok (.iadd, 1) := by decide +kernel
theorem dX6_next_77 : decode cX6_next 77 = .ok (.istore_n 3, 1) := by decide +kernel
theorem dX6_next_78 : decode cX6_next 78 = .ok (.aload_n 0, 1) := by decide +kernel
theorem dX6_next_79 : decode cX6_next 79 = .ok (.getfield 142, 3) := by decide +kernel
theorem dX6_next_82 : decode cX6_next 82 = .ok (.iconst 1, 1) := by decide +kernel
theorem dX6_next_83 : decode cX6_next 83 = .ok (.isub, 1) := by decide +kernel
theorem dX6_next_84 : decode cX6_next 84 = .ok (.istore 4, 2) := by decide +kernel
theorem dX6_next_86 : decode cX6_next 86 = .ok (.iload_n 3, 1) := by decide +kernel
theorem dX6_next_87 : decode cX6_next 87 = .ok (.iload 4, 2) := by decide +kernel
theorem dX6_next_89 : decode cX6_next 89 = .ok (.if_icmp .ge 19, 3) := by decide +kernel
theorem dX6_next_92 : decode cX6_next 92 = .ok (.aload_n 0, 1) := by decide +kernel
theorem dX6_next_93 : decode cX6_next 93 = .ok (.iload_n 3, 1) := by decide +kernel
theorem dX6_next_94 : decode cX6_next 94 = .ok (.iload 4, 2) := by decide +kernel
theorem dX6_next_96 : decode cX6_next 96 = .ok (.invokevirtual 145, 3) := by decide +kernel
theorem dX6_next_99 : decode cX6_next 99 = .ok (.iinc 3 1, 3) := by decide +kernel
theorem dX6_next_102 : decode cX6_next 102 = .ok (.iinc 4 (-1), 3) := by decide +kernel
theorem dX6_next_105 : decode cX6_next 105 = .ok (.goto (-19), 3) := by decide +kernel
theorem dX6_next_108 : decode cX6_next 108 = .ok (.iconst 1, 1) := by decide +kernel
theorem dX6_next_109 : decode cX6_next 109 = .ok (.ireturn, 1) := by decide +kernel
theorem dX6_layOrder_0 : decode cX6_layOrder 0 = .ok (.aload_n 0, 1) := by decide +kernel
theorem dX6_layOrder_1 : decode cX6_layOrder 1 = .ok (.iconst 0, 1) := by decide +kernel
theorem dX6_layOrder_2 : decode cX6_layOrder 2 = .ok (.putfield 142, 3) := by decide +kernel
theorem dX6_layOrder_5 : decode cX6_layOrder 5 = .ok (.iconst 0, 1) := by decide +kernel
theorem dX6_layOrder_6 : decode cX6_layOrder 6 = .ok (.istore_n 2, 1) := by decide +kernel
theorem dX6_layOrder_7 : decode cX6_layOrder 7 = .ok (.iload_n 2, 1) := by decide +kernel
theorem dX6_layOrder_8 : decode cX6_layOrder 8 = .ok (.aload_n 0, 1) := by decide +kernel
theorem dX6_layOrder_9 : decode cX6_layOrder 9 = .ok (.getfield 105, 3) := by decide +kernel
theorem dX6_layOrder_12 : decode cX6_layOrder 12 = .ok (.if_icmp .ge 38, 3) := by decide +kernel
theorem dX6_layOrder_15 : decode cX6_layOrder 15 = .ok (.iload_n 1, 1) := by decide +kernel
theorem dX6_layOrder_16 : decode cX6_layOrder 16 = .ok (.iload_n 2, 1) := by decide +kernel
theorem dX6_layOrder_17 : decode cX6_layOrder 17 = .ok (.ishr, 1) := by decide +kernel
theorem dX6_layOrder_18 : decode cX6_layOrder 18 = .ok (.iconst 1, 1) := by decide +kernel
theorem dX6_layOrder_19 : decode cX6_layOrder 19 = .ok (.iand, 1) := by decide +kernel
theorem dX6_layOrder_20 : decode cX6_layOrder 20 = .ok (.iconst 1, 1) := by decide +kernel
theorem dX6_layOrder_21 : decode cX6_layOrder 21 = .ok (.if_icmp .ne 23, 3) := by decide +kernel
theorem dX6_layOrder_24 : decode cX6_layOrder 24 = .ok (.aload_n 0, 1) := by decide +kernel
theorem dX6_layOrder_25 : decode cX6_layOrder 25 = .ok (.getfield 81, 3) := by decide +kernel
theorem dX6_layOrder_28 : decode cX6_layOrder 28 = .ok (.aload_n 0, 1) := by decide +kernel
theorem dX6_layOrder_29 : decode cX6_layOrder 29 = .ok (.getfield 142, 3) := by decide +kernel
theorem dX6_layOrder_32 : decode cX6_layOrder 32 = .ok (.iload_n 2, 1) := by decide +kernel
theorem dX6_layOrder_33 : decode cX6_layOrder 33 = .ok (.iastore, 1) := by decide +kernel
theorem dX6_layOrder_34 : decode cX6_layOrder 34 = .ok (.aload_n 0, 1) := by decide +kernel
theorem dX6_layOrder_35 : decode cX6_layOrder 35 = .ok (.dup, 1) := by decide +kernel
theorem dX6_layOrder_36 : decode cX6_layOrder 36 = .ok (.getfield 142, 3) := by decide +kernel
theorem dX6_layOrder_39 : decode cX6_layOrder 39 = .ok (.iconst 1, 1) := by decide +kernel
theorem dX6_layOrder_40 : decode cX6_layOrder 40 = .ok (.iadd, 1) := by decide +kernel
theorem dX6_layOrder_41 : decode cX6_layOrder 41 = .ok (.putfield 142, 3) := by decide +kernel
theorem dX6_layOrder_44 : decode cX6_layOrder 44 = .ok (.iinc 2 1, 3) := by decide +kernel
theorem dX6_layOrder_47 : decode cX6_layOrder 47 = .ok (.goto (-40), 3) := by decide +kernel
theorem dX6_layOrder_50 : decode cX6_layOrder 50 = .ok (.ldc 149, 2) := by decide +kernel
theorem dX6_layOrder_52 : decode cX6_layOrder 52 = .ok (.istore_n 2, 1) := by decide +kernel
theorem dX6_layOrder_53 : decode cX6_layOrder 53 = .ok (.iconst 1, 1) := by decide +kernel
theorem dX6_layOrder_54 : decode cX6_layOrder 54 = .ok (.istore_n 3, 1) := by decide +kernel
theorem dX6_layOrder_55 : decode cX6_layOrder 55 = .ok (.iload_n 3, 1) := by decide +kernel
theorem dX6_layOrder_56 : decode cX6_layOrder 56 = .ok (.ifCond .eq 58, 3) := by decide +kernel
theorem dX6_layOrder_59 : decode cX6_layOrder 59 = .ok (.aload_n 0, 1) := by decide +kernel
theorem dX6_layOrder_60 : decode cX6_layOrder 60 = .ok (.invokevirtual 150, 3) := by decide +kernel
theorem dX6_layOrder_63 : decode cX6_layOrder 63 = .ok (.istore 4, 2) := by decide +kernel
theorem dX6_layOrder_65 : decode cX6_layOrder 65 = .ok (.iload 4, 2) := by decide +kernel
theorem dX6_layOrder_67 : decode cX6_layOrder 67 = .ok (.iload_n 2, 1) := by decide +kernel
theorem dX6_layOrder_68 : decode cX6_layOrder 68 = .ok (.if_icmp .ge 38, 3) := by decide +kernel
theorem dX6_layOrder_71 : decode cX6_layOrder 71 = .ok (.iload 4, 2) := by decide +kernel
theorem dX6_layOrder_73 : decode cX6_layOrder 73 = .ok (.istore_n 2, 1) := by decide +kernel
theorem dX6_layOrder_74 : decode cX6_layOrder 74 = .ok (.iconst 0, 1) := by decide +kernel
theorem dX6_layOrder_75 : decode cX6_layOrder 75 = .ok (.istore 5, 2) := by decide +kernel
theorem dX6_layOrder_77 : decode cX6_layOrder 77 = .ok (.iload 5, 2) := by decide +kernel
theorem dX6_layOrder_79 : decode cX6_layOrder 79 = .ok (.aload_n 0, 1) := by decide +kernel
theorem dX6_layOrder_80 : decode cX6_layOrder 80 = .ok (.getfield 142, 3) := by decide +kernel
theorem dX6_layOrder_83 : decode cX6_layOrder 83 = .ok (.if_icmp .ge 23, 3) := by decide +kernel
theorem dX6_layOrder_86 : decode cX6_layOrder 86 = .ok (.aload_n 0, 1) := by decide +kernel
theorem dX6_layOrder_87 : decode cX6_layOrder 87 = .ok (.getfield 84, 3) := by decide +kernel
theorem dX6_layOrder_90 : decode cX6_layOrder 90 = .ok (.iload 5, 2) := by decide +kernel
theorem dX6_layOrder_92 : decode cX6_layOrder 92 = .ok (.aload_n 0, 1) := by decide +kernel
theorem dX6_layOrder_93 : decode cX6_layOrder 93 = .ok (.getfield 81, 3) := by decide +kernel
theorem dX6_layOrder_96 : decode cX6_layOrder 96 = .ok (.iload 5, 2) := by decide +kernel
theorem dX6_layOrder_98 : decode cX6_layOrder 98 = .ok (.iaload, 1) := by decide +kernel
theorem dX6_layOrder_99 : decode cX6_layOrder 99 = .ok (.iastore, 1) := by decide +kernel
theorem dX6_layOrder_100 : decode cX6_layOrder 100 = .ok (.iinc 5 1, 3) := by decide +kernel
theorem dX6_layOrder_103 : decode cX6_layOrder 103 = .ok (.goto (-26), 3) := by decide +kernel
theorem dX6_layOrder_106 : decode cX6_layOrder 106 = .ok (.aload_n 0, 1) := by decide +kernel
theorem dX6_layOrder_107 : decode cX6_layOrder 107 = .ok (.invokevirtual 154, 3) := by decide +kernel
theorem dX6_layOrder_110 : decode cX6_layOrder 110 = .ok (.istore_n 3, 1) := by decide +kernel
theorem dX6_layOrder_111 : decode cX6_layOrder 111 = .ok (.goto (-56), 3) := by decide +kernel
theorem dX6_layOrder_114 : decode cX6_layOrder 114 = .ok (.iload_n 2, 1) := by decide +kernel
theorem dX6_layOrder_115 : decode cX6_layOrder 115 = .ok (.ireturn, 1) := by decide +kernel
theorem dX6_made_0 : decode cX6_made 0 = .ok (.aload_n 0, 1) := by decide +kernel
theorem dX6_made_1 : decode cX6_made 1 = .ok (.iload_n 1, 1) := by decide +kernel
theorem dX6_made_2 : decode cX6_made 2 = .ok (.invokevirtual 116, 3) := by decide +kernel
theorem dX6_made_5 : decode cX6_made 5 = .ok (.ifCond .eq 11, 3) := by decide +kernel
theorem dX6_made_8 : decode cX6_made 8 = .ok (.aload_n 0, 1) := by decide +kernel
theorem dX6_made_9 : decode cX6_made 9 = .ok (.iload_n 1, 1) := by decide +kernel
theorem dX6_made_10 : decode cX6_made 10 = .ok (.invokevirtual 158, 3) := by decide +kernel
theorem dX6_made_13 : decode cX6_made 13 = .ok (.goto 5, 3) := by decide +kernel
theorem dX6_made_16 : decode cX6_made 16 = .ok (.bipush (-2), 2) := by decide +kernel
theorem dX6_made_18 : decode cX6_made 18 = .ok (.ireturn, 1) := by decide +kernel
theorem dX6_order_0 : decode cX6_order 0 = .ok (.aload_n 0, 1) := by decide +kernel
theorem dX6_order_1 : decode cX6_order 1 = .ok (.iload_n 1, 1) := by decide +kernel
theorem dX6_order_2 : decode cX6_order 2 = .ok (.invokevirtual 116, 3) := by decide +kernel
theorem dX6_order_5 : decode cX6_order 5 = .ok (.ifCond .ne 6, 3) := by decide +kernel
theorem dX6_order_8 : decode cX6_order 8 = .ok (.bipush (-2), 2) := by decide +kernel
theorem dX6_order_10 : decode cX6_order 10 = .ok (.ireturn, 1) := by decide +kernel
theorem dX6_order_11 : decode cX6_order 11 = .ok (.aload_n 0, 1) := by decide +kernel
theorem dX6_order_12 : decode cX6_order 12 = .ok (.iload_n 1, 1) := by decide +kernel
theorem dX6_order_13 : decode cX6_order 13 = .ok (.invokevirtual 158, 3) := by decide +kernel
theorem dX6_order_16 : decode cX6_order 16 = .ok (.istore_n 3, 1) := by decide +kernel
theorem dX6_order_17 : decode cX6_order 17 = .ok (.iload_n 2, 1) := by decide +kernel
theorem dX6_order_18 : decode cX6_order 18 = .ok (.iconst 0, 1) := by decide +kernel
theorem dX6_order_19 : decode cX6_order 19 = .ok (.aload_n 0, 1) := by decide +kernel
theorem dX6_order_20 : decode cX6_order 20 = .ok (.getfield 142, 3) := by decide +kernel
theorem dX6_order_23 : decode cX6_order 23 = .ok (.iconst 1, 1) := by decide +kernel
theorem dX6_order_24 : decode cX6_order 24 = .ok (.isub, 1) := by decide +kernel
theorem dX6_order_25 : decode cX6_order 25 = .ok (.invokestatic 108, 3) := by decide +kernel
theorem dX6_order_28 : decode cX6_order 28 = .ok (.ifCond .eq 12, 3) := by decide +kernel
theorem dX6_order_31 : decode cX6_order 31 = .ok (.aload_n 0, 1) := by decide +kernel
theorem dX6_order_32 : decode cX6_order 32 = .ok (.getfield 84, 3) := by decide +kernel
theorem dX6_order_35 : decode cX6_order 35 = .ok (.iload_n 2, 1) := by decide +kernel
theorem dX6_order_36 : decode cX6_order 36 = .ok (.iaload, 1) := by decide +kernel
theorem dX6_order_37 : decode cX6_order 37 = .ok (.goto 4, 3) := by decide +kernel
theorem dX6_order_40 : decode cX6_order 40 = .ok (.iconst (-1), 1) := by decide +kernel
theorem dX6_order_41 : decode cX6_order 41 = .ok (.ireturn, 1) := by decide +kernel
theorem dX6_room_0 : decode cX6_room 0 = .ok (.iload_n 1, 1) := by decide +kernel
theorem dX6_room_1 : decode cX6_room 1 = .ok (.iconst 0, 1) := by decide +kernel
theorem dX6_room_2 : decode cX6_room 2 = .ok (.iconst 2, 1) := by decide +kernel
theorem dX6_room_3 : decode cX6_room 3 = .ok (.invokestatic 108, 3) := by decide +kernel
theorem dX6_room_6 : decode cX6_room 6 = .ok (.ifCond .eq 23, 3) := by decide +kernel
theorem dX6_room_9 : decode cX6_room 9 = .ok (.iload_n 2, 1) := by decide +kernel
theorem dX6_room_10 : decode cX6_room 10 = .ok (.iconst 0, 1) := by decide +kernel
theorem dX6_room_11 : decode cX6_room 11 = .ok (.bipush 100, 2) := by decide +kernel
theorem dX6_room_13 : decode cX6_room 13 = .ok (.invokestatic 108, 3) := by decide +kernel
theorem dX6_room_16 : decode cX6_room 16 = .ok (.ifCond .eq 13, 3) := by decide +kernel
theorem dX6_room_19 : decode cX6_room 19 = .ok (.iload_n 3, 1) := by decide +kernel
theorem dX6_room_20 : decode cX6_room 20 = .ok (.iconst 1, 1) := by decide +kernel
theorem dX6_room_21 : decode cX6_room 21 = .ok (.bipush 30, 2) := by decide +kernel
theorem dX6_room_23 : decode cX6_room 23 = .ok (.invokestatic 108, 3) := by decide +kernel
theorem dX6_room_26 : decode cX6_room 26 = .ok (.ifCond .ne 6, 3) := by decide +kernel
theorem dX6_room_29 : decode cX6_room 29 = .ok (.bipush (-2), 2) := by decide +kernel
theorem dX6_room_31 : decode cX6_room 31 = .ok (.ireturn, 1) := by decide +kernel
theorem dX6_room_32 : decode cX6_room 32 = .ok (.aload_n 0, 1) := by decide +kernel
theorem dX6_room_33 : decode cX6_room 33 = .ok (.getfield 50, 3) := by decide +kernel
theorem dX6_room_36 : decode cX6_room 36 = .ok (.iload_n 1, 1) := by decide +kernel
theorem dX6_room_37 : decode cX6_room 37 = .ok (.iload_n 2, 1) := by decide +kernel
theorem dX6_room_38 : decode cX6_room 38 = .ok (.iastore, 1) := by decide +kernel
theorem dX6_room_39 : decode cX6_room 39 = .ok (.aload_n 0, 1) := by decide +kernel
theorem dX6_room_40 : decode cX6_room 40 = .ok (.getfield 53, 3) := by decide +kernel
theorem dX6_room_43 : decode cX6_room 43 = .ok (.iload_n 1, 1) := by decide +kernel
theorem dX6_room_44 : decode cX6_room 44 = .ok (.iload_n 3, 1) := by decide +kernel
theorem dX6_room_45 : decode cX6_room 45 = .ok (.iastore, 1) := by decide +kernel
theorem dX6_room_46 : decode cX6_room 46 = .ok (.iconst 1, 1) := by decide +kernel
theorem dX6_room_47 : decode cX6_room 47 = .ok (.ireturn, 1) := by decide +kernel
theorem dX6_come_0 : decode cX6_come 0 = .ok (.iload_n 1, 1) := by decide +kernel
theorem dX6_come_1 : decode cX6_come 1 = .ok (.iconst 0, 1) := by decide +kernel
theorem dX6_come_2 : decode cX6_come 2 = .ok (.sipush 600, 3) := by decide +kernel
theorem dX6_come_5 : decode cX6_come 5 = .ok (.invokestatic 108, 3) := by decide +kernel
theorem dX6_come_8 : decode cX6_come 8 = .ok (.ifCond .eq 13, 3) := by decide +kernel
theorem dX6_come_11 : decode cX6_come 11 = .ok (.iload_n 2, 1) := by decide +kernel
theorem dX6_come_12 : decode cX6_come 12 = .ok (.iconst 1, 1) := by decide +kernel
theorem dX6_come_13 : decode cX6_come 13 = .ok (.bipush 20, 2) := by decide +kernel
theorem dX6_come_15 : decode cX6_come 15 = .ok (.invokestatic 108, 3) := by decide +kernel
theorem dX6_come_18 : decode cX6_come 18 = .ok (.ifCond .ne 6, 3) := by decide +kernel
theorem dX6_come_21 : decode cX6_come 21 = .ok (.bipush (-2), 2) := by decide +kernel
theorem dX6_come_23 : decode cX6_come 23 = .ok (.ireturn, 1) := by decide +kernel
theorem dX6_come_24 : decode cX6_come 24 = .ok (.aload_n 0, 1) := by decide +kernel
theorem dX6_come_25 : decode cX6_come 25 = .ok (.getfield 161, 3) := by decide +kernel
theorem dX6_come_28 : decode cX6_come 28 = .ok (.ifCond .le 21, 3) := by decide +kernel
theorem dX6_come_31 : decode cX6_come 31 = .ok (.iload_n 1, 1) := by decide +kernel
theorem dX6_come_32 : decode cX6_come 32 = .ok (.aload_n 0, 1) := by decide +kernel
theorem dX6_come_33 : decode cX6_come 33 = .ok (.getfield 56, 3) := by decide +kernel
theorem dX6_come_36 : decode cX6_come 36 = .ok (.aload_n 0, 1) := by decide +kernel
theorem dX6_come_37 : decode cX6_come 37 = .ok (.getfield 161, 3) := by decide +kernel
theorem dX6_come_40 : decode cX6_come 40 = .ok (.iconst 1, 1) := by decide +kernel
theorem dX6_come_41 : decode cX6_come 41 = .ok (.isub, 1) := by decide +kernel
theorem dX6_come_42 : decode cX6_come 42 = .ok (.iaload, 1) := by decide +kernel
theorem dX6_come_43 : decode cX6_come 43 = .ok (.if_icmp .ge 6, 3) := by decide +kernel
theorem dX6_come_46 : decode cX6_come 46 = .ok (.bipush (-3), 2) := by decide +kernel
theorem dX6_come_48 : decode cX6_come 48 = .ok (.ireturn, 1) := by decide +kernel
theorem dX6_come_49 : decode cX6_come 49 = .ok (.aload_n 0, 1) := by decide +kernel
theorem dX6_come_50 : decode cX6_come 50 = .ok (.getfield 161, 3) := by decide +kernel
theorem dX6_come_53 : decode cX6_come 53 = .ok (.iload_n 2, 1) := by decide +kernel
theorem dX6_come_54 : decode cX6_come 54 = .ok (.iadd, 1) := by decide +kernel
theorem dX6_come_55 : decode cX6_come 55 = .ok (.bipush 40, 2) := by decide +kernel
theorem dX6_come_57 : decode cX6_come 57 = .ok (.if_icmp .le 6, 3) := by decide +kernel
theorem dX6_come_60 : decode cX6_come 60 = .ok (.bipush (-4), 2) := by decide +kernel
theorem dX6_come_62 : decode cX6_come 62 = .ok (.ireturn, 1) := by decide +kernel
theorem dX6_come_63 : decode cX6_come 63 = .ok (.iconst 0, 1) := by decide +kernel
theorem dX6_come_64 : decode cX6_come 64 = .ok (.istore_n 3, 1) := by decide +kernel
theorem dX6_come_65 : decode cX6_come 65 = .ok (.iload_n 3, 1) := by decide +kernel
theorem dX6_come_66 : decode cX6_come 66 = .ok (.iload_n 2, 1) := by decide +kernel
theorem dX6_come_67 : decode cX6_come 67 = .ok (.if_icmp .ge 29, 3) := by decide +kernel
theorem dX6_come_70 : decode cX6_come 70 = .ok (.aload_n 0, 1) := by decide +kernel
theorem dX6_come_71 : decode cX6_come 71 = .ok (.getfield 56, 3) := by decide +kernel
theorem dX6_come_74 : decode cX6_come 74 = .ok (.aload_n 0, 1) := by decide +kernel
theorem dX6_come_75 : decode cX6_come 75 = .ok (.getfield 161, 3) := by decide +kernel
theorem dX6_come_78 : decode cX6_come 78 = .ok (.iload_n 1, 1) := by decide +kernel
theorem dX6_come_79 : decode cX6_come 79 = .ok (.iastore, 1) := by decide +kernel
theorem dX6_come_80 : decode cX6_come 80 = .ok (.aload_n 0, 1) := by decide +kernel
theorem dX6_come_81 : decode cX6_come 81 = .ok (.dup, 1) := by decide +kernel
theorem dX6_come_82 : decode cX6_come 82 = .ok (.getfield 161, 3) := by decide +kernel
theorem dX6_come_85 : decode cX6_come 85 = .ok (.iconst 1, 1) := by decide +kernel
theorem dX6_come_86 : decode cX6_come 86 = .ok (.iadd, 1) := by decide +kernel
theorem dX6_come_87 : decode cX6_come 87 = .ok (.putfield 161, 3) := by decide +kernel
theorem dX6_come_90 : decode cX6_come 90 = .ok (.iinc 3 1, 3) := by decide +kernel
theorem dX6_come_93 : decode cX6_come 93 = .ok (.goto (-28), 3) := by decide +kernel
theorem dX6_come_96 : decode cX6_come 96 = .ok (.aload_n 0, 1) := by decide +kernel
theorem dX6_come_97 : decode cX6_come 97 = .ok (.getfield 161, 3) := by decide +kernel
theorem dX6_come_100 : decode cX6_come 100 = .ok (.ireturn, 1) := by decide +kernel
theorem dX6_empty_0 : decode cX6_empty 0 = .ok (.aload_n 0, 1) := by decide +kernel
theorem dX6_empty_1 : decode cX6_empty 1 = .ok (.getfield 161, 3) := by decide +kernel
theorem dX6_empty_4 : decode cX6_empty 4 = .ok (.istore_n 1, 1) := by decide +kernel
theorem dX6_empty_5 : decode cX6_empty 5 = .ok (.aload_n 0, 1) := by decide +kernel
theorem dX6_empty_6 : decode cX6_empty 6 = .ok (.iconst 0, 1) := by decide +kernel
theorem dX6_empty_7 : decode cX6_empty 7 = .ok (.putfield 161, 3) := by decide +kernel
theorem dX6_empty_10 : decode cX6_empty 10 = .ok (.iload_n 1, 1) := by decide +kernel
theorem dX6_empty_11 : decode cX6_empty 11 = .ok (.ireturn, 1) := by decide +kernel
theorem dX6_step_0 : decode cX6_step 0 = .ok (.iconst 2, 1) := by decide +kernel
theorem dX6_step_1 : decode cX6_step 1 = .ok (.istore_n 2, 1) := by decide +kernel
theorem dX6_step_2 : decode cX6_step 2 = .ok (.iload_n 2, 1) := by decide +kernel
theorem dX6_step_3 : decode cX6_step 3 = .ok (.ifCond .lt 88, 3) := by decide +kernel
theorem dX6_step_6 : decode cX6_step 6 = .ok (.iconst 0, 1) := by decide +kernel
theorem dX6_step_7 : decode cX6_step 7 = .ok (.istore_n 3, 1) := by decide +kernel
theorem dX6_step_8 : decode cX6_step 8 = .ok (.iload_n 3, 1) := by decide +kernel
theorem dX6_step_9 : decode cX6_step 9 = .ok (.aload_n 0, 1) := by decide +kernel
theorem dX6_step_10 : decode cX6_step 10 = .ok (.getfield 161, 3) := by decide +kernel
theorem dX6_step_13 : decode cX6_step 13 = .ok (.if_icmp .ge 72, 3) := by decide +kernel
theorem dX6_step_16 : decode cX6_step 16 = .ok (.aload_n 0, 1) := by decide +kernel
theorem dX6_step_17 : decode cX6_step 17 = .ok (.getfield 90, 3) := by decide +kernel
theorem dX6_step_20 : decode cX6_step 20 = .ok (.iload_n 3, 1) := by decide +kernel
theorem dX6_step_21 : decode cX6_step 21 = .ok (.iaload, 1) := by decide +kernel
