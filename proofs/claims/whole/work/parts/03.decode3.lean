theorem dX7_isFit_65 : decode cX7_isFit 65 = .ok (.isub, 1) := by decide +kernel
theorem dX7_isFit_66 : decode cX7_isFit 66 = .ok (.invokestatic 85, 3) := by decide +kernel
theorem dX7_isFit_69 : decode cX7_isFit 69 = .ok (.ifCond .ne 5, 3) := by decide +kernel
theorem dX7_isFit_72 : decode cX7_isFit 72 = .ok (.iconst 0, 1) := by decide +kernel
theorem dX7_isFit_73 : decode cX7_isFit 73 = .ok (.ireturn, 1) := by decide +kernel
theorem dX7_isFit_74 : decode cX7_isFit 74 = .ok (.iload 4, 2) := by decide +kernel
theorem dX7_isFit_76 : decode cX7_isFit 76 = .ok (.istore 5, 2) := by decide +kernel
theorem dX7_isFit_78 : decode cX7_isFit 78 = .ok (.iload 5, 2) := by decide +kernel
theorem dX7_isFit_80 : decode cX7_isFit 80 = .ok (.ifCond .lt 27, 3) := by decide +kernel
theorem dX7_isFit_83 : decode cX7_isFit 83 = .ok (.iload 5, 2) := by decide +kernel
theorem dX7_isFit_85 : decode cX7_isFit 85 = .ok (.iload_n 2, 1) := by decide +kernel
theorem dX7_isFit_86 : decode cX7_isFit 86 = .ok (.if_icmp .eq 21, 3) := by decide +kernel
theorem dX7_isFit_89 : decode cX7_isFit 89 = .ok (.aload_n 0, 1) := by decide +kernel
theorem dX7_isFit_90 : decode cX7_isFit 90 = .ok (.getfield 29, 3) := by decide +kernel
theorem dX7_isFit_93 : decode cX7_isFit 93 = .ok (.aload_n 0, 1) := by decide +kernel
theorem dX7_isFit_94 : decode cX7_isFit 94 = .ok (.iload_n 1, 1) := by decide +kernel
theorem dX7_isFit_95 : decode cX7_isFit 95 = .ok (.iload 5, 2) := by decide +kernel
theorem dX7_isFit_97 : decode cX7_isFit 97 = .ok (.iconst 2, 1) := by decide +kernel
theorem dX7_isFit_98 : decode cX7_isFit 98 = .ok (.invokevirtual 92, 3) := by decide +kernel
theorem dX7_isFit_101 : decode cX7_isFit 101 = .ok (.iaload, 1) := by decide +kernel
theorem dX7_isFit_102 : decode cX7_isFit 102 = .ok (.istore 5, 2) := by decide +kernel
theorem dX7_isFit_104 : decode cX7_isFit 104 = .ok (.goto (-26), 3) := by decide +kernel
theorem dX7_isFit_107 : decode cX7_isFit 107 = .ok (.iload 5, 2) := by decide +kernel
theorem dX7_isFit_109 : decode cX7_isFit 109 = .ok (.iload_n 2, 1) := by decide +kernel
theorem dX7_isFit_110 : decode cX7_isFit 110 = .ok (.if_icmp .eq 7, 3) := by decide +kernel
theorem dX7_isFit_113 : decode cX7_isFit 113 = .ok (.iconst 1, 1) := by decide +kernel
theorem dX7_isFit_114 : decode cX7_isFit 114 = .ok (.goto 4, 3) := by decide +kernel
theorem dX7_isFit_117 : decode cX7_isFit 117 = .ok (.iconst 0, 1) := by decide +kernel
theorem dX7_isFit_118 : decode cX7_isFit 118 = .ok (.ireturn, 1) := by decide +kernel
theorem dX7_put_0 : decode cX7_put 0 = .ok (.aload_n 0, 1) := by decide +kernel
theorem dX7_put_1 : decode cX7_put 1 = .ok (.getfield 29, 3) := by decide +kernel
theorem dX7_put_4 : decode cX7_put 4 = .ok (.aload_n 0, 1) := by decide +kernel
theorem dX7_put_5 : decode cX7_put 5 = .ok (.iload_n 1, 1) := by decide +kernel
theorem dX7_put_6 : decode cX7_put 6 = .ok (.iload_n 2, 1) := by decide +kernel
theorem dX7_put_7 : decode cX7_put 7 = .ok (.iload_n 3, 1) := by decide +kernel
theorem dX7_put_8 : decode cX7_put 8 = .ok (.invokevirtual 92, 3) := by decide +kernel
theorem dX7_put_11 : decode cX7_put 11 = .ok (.iload 4, 2) := by decide +kernel
theorem dX7_put_13 : decode cX7_put 13 = .ok (.iastore, 1) := by decide +kernel
theorem dX7_put_14 : decode cX7_put 14 = .ok (.aload_n 0, 1) := by decide +kernel
theorem dX7_put_15 : decode cX7_put 15 = .ok (.iload_n 1, 1) := by decide +kernel
theorem dX7_put_16 : decode cX7_put 16 = .ok (.invokevirtual 120, 3) := by decide +kernel
theorem dX7_put_19 : decode cX7_put 19 = .ok (.return_, 1) := by decide +kernel
theorem dX7_firstFalse_0 : decode cX7_firstFalse 0 = .ok (.iconst 0, 1) := by decide +kernel
theorem dX7_firstFalse_1 : decode cX7_firstFalse 1 = .ok (.istore_n 2, 1) := by decide +kernel
theorem dX7_firstFalse_2 : decode cX7_firstFalse 2 = .ok (.iload_n 2, 1) := by decide +kernel
theorem dX7_firstFalse_3 : decode cX7_firstFalse 3 = .ok (.aload_n 0, 1) := by decide +kernel
theorem dX7_firstFalse_4 : decode cX7_firstFalse 4 = .ok (.getfield 96, 3) := by decide +kernel
theorem dX7_firstFalse_7 : decode cX7_firstFalse 7 = .ok (.if_icmp .ge 32, 3) := by decide +kernel
theorem dX7_firstFalse_10 : decode cX7_firstFalse 10 = .ok (.aload_n 0, 1) := by decide +kernel
theorem dX7_firstFalse_11 : decode cX7_firstFalse 11 = .ok (.getfield 32, 3) := by decide +kernel
theorem dX7_firstFalse_14 : decode cX7_firstFalse 14 = .ok (.bipush 12, 2) := by decide +kernel
theorem dX7_firstFalse_16 : decode cX7_firstFalse 16 = .ok (.iload_n 1, 1) := by decide +kernel
theorem dX7_firstFalse_17 : decode cX7_firstFalse 17 = .ok (.imul, 1) := by decide +kernel
theorem dX7_firstFalse_18 : decode cX7_firstFalse 18 = .ok (.iload_n 2, 1) := by decide +kernel
theorem dX7_firstFalse_19 : decode cX7_firstFalse 19 = .ok (.iadd, 1) := by decide +kernel
theorem dX7_firstFalse_20 : decode cX7_firstFalse 20 = .ok (.laload, 1) := by decide +kernel
theorem dX7_firstFalse_21 : decode cX7_firstFalse 21 = .ok (.aload_n 0, 1) := by decide +kernel
theorem dX7_firstFalse_22 : decode cX7_firstFalse 22 = .ok (.iload_n 1, 1) := by decide +kernel
theorem dX7_firstFalse_23 : decode cX7_firstFalse 23 = .ok (.iload_n 2, 1) := by decide +kernel
theorem dX7_firstFalse_24 : decode cX7_firstFalse 24 = .ok (.invokevirtual 99, 3) := by decide +kernel
theorem dX7_firstFalse_27 : decode cX7_firstFalse 27 = .ok (.lcmp, 1) := by decide +kernel
theorem dX7_firstFalse_28 : decode cX7_firstFalse 28 = .ok (.ifCond .eq 5, 3) := by decide +kernel
theorem dX7_firstFalse_31 : decode cX7_firstFalse 31 = .ok (.iload_n 2, 1) := by decide +kernel
theorem dX7_firstFalse_32 : decode cX7_firstFalse 32 = .ok (.ireturn, 1) := by decide +kernel
theorem dX7_firstFalse_33 : decode cX7_firstFalse 33 = .ok (.iinc 2 1, 3) := by decide +kernel
theorem dX7_firstFalse_36 : decode cX7_firstFalse 36 = .ok (.goto (-34), 3) := by decide +kernel
theorem dX7_firstFalse_39 : decode cX7_firstFalse 39 = .ok (.iconst (-1), 1) := by decide +kernel
theorem dX7_firstFalse_40 : decode cX7_firstFalse 40 = .ok (.ireturn, 1) := by decide +kernel
theorem dX7_know_0 : decode cX7_know 0 = .ok (.aload_n 0, 1) := by decide +kernel
theorem dX7_know_1 : decode cX7_know 1 = .ok (.getfield 55, 3) := by decide +kernel
theorem dX7_know_4 : decode cX7_know 4 = .ok (.iload_n 1, 1) := by decide +kernel
theorem dX7_know_5 : decode cX7_know 5 = .ok (.iaload, 1) := by decide +kernel
theorem dX7_know_6 : decode cX7_know 6 = .ok (.bipush 60, 2) := by decide +kernel
theorem dX7_know_8 : decode cX7_know 8 = .ok (.if_icmp .ne 160, 3) := by decide +kernel
theorem dX7_know_11 : decode cX7_know 11 = .ok (.bipush 60, 2) := by decide +kernel
theorem dX7_know_13 : decode cX7_know 13 = .ok (.iload_n 1, 1) := by decide +kernel
theorem dX7_know_14 : decode cX7_know 14 = .ok (.imul, 1) := by decide +kernel
theorem dX7_know_15 : decode cX7_know 15 = .ok (.istore 5, 2) := by decide +kernel
theorem dX7_know_17 : decode cX7_know 17 = .ok (.iload 5, 2) := by decide +kernel
theorem dX7_know_19 : decode cX7_know 19 = .ok (.iconst 1, 1) := by decide +kernel
theorem dX7_know_20 : decode cX7_know 20 = .ok (.iadd, 1) := by decide +kernel
theorem dX7_know_21 : decode cX7_know 21 = .ok (.bipush 60, 2) := by decide +kernel
theorem dX7_know_23 : decode cX7_know 23 = .ok (.iload_n 1, 1) := by decide +kernel
theorem dX7_know_24 : decode cX7_know 24 = .ok (.imul, 1) := by decide +kernel
theorem dX7_know_25 : decode cX7_know 25 = .ok (.bipush 60, 2) := by decide +kernel
theorem dX7_know_27 : decode cX7_know 27 = .ok (.iadd, 1) := by decide +kernel
theorem dX7_know_28 : decode cX7_know 28 = .ok (.if_icmp .ge 102, 3) := by decide +kernel
theorem dX7_know_31 : decode cX7_know 31 = .ok (.aload_n 0, 1) := by decide +kernel
theorem dX7_know_32 : decode cX7_know 32 = .ok (.getfield 58, 3) := by decide +kernel
theorem dX7_know_35 : decode cX7_know 35 = .ok (.iload 5, 2) := by decide +kernel
theorem dX7_know_37 : decode cX7_know 37 = .ok (.aload_n 0, 1) := by decide +kernel
theorem dX7_know_38 : decode cX7_know 38 = .ok (.getfield 58, 3) := by decide +kernel
theorem dX7_know_41 : decode cX7_know 41 = .ok (.iload 5, 2) := by decide +kernel
theorem dX7_know_43 : decode cX7_know 43 = .ok (.iconst 1, 1) := by decide +kernel
theorem dX7_know_44 : decode cX7_know 44 = .ok (.iadd, 1) := by decide +kernel
theorem dX7_know_45 : decode cX7_know 45 = .ok (.iaload, 1) := by decide +kernel
theorem dX7_know_46 : decode cX7_know 46 = .ok (.iastore, 1) := by decide +kernel
theorem dX7_know_47 : decode cX7_know 47 = .ok (.aload_n 0, 1) := by decide +kernel
theorem dX7_know_48 : decode cX7_know 48 = .ok (.getfield 61, 3) := by decide +kernel
theorem dX7_know_51 : decode cX7_know 51 = .ok (.iload 5, 2) := by decide +kernel
theorem dX7_know_53 : decode cX7_know 53 = .ok (.aload_n 0, 1) := by decide +kernel
theorem dX7_know_54 : decode cX7_know 54 = .ok (.getfield 61, 3) := by decide +kernel
theorem dX7_know_57 : decode cX7_know 57 = .ok (.iload 5, 2) := by decide +kernel
theorem dX7_know_59 : decode cX7_know 59 = .ok (.iconst 1, 1) := by decide +kernel
theorem dX7_know_60 : decode cX7_know 60 = .ok (.iadd, 1) := by decide +kernel
theorem dX7_know_61 : decode cX7_know 61 = .ok (.iaload, 1) := by decide +kernel
theorem dX7_know_62 : decode cX7_know 62 = .ok (.iastore, 1) := by decide +kernel
theorem dX7_know_63 : decode cX7_know 63 = .ok (.aload_n 0, 1) := by decide +kernel
theorem dX7_know_64 : decode cX7_know 64 = .ok (.getfield 64, 3) := by decide +kernel
theorem dX7_know_67 : decode cX7_know 67 = .ok (.iload 5, 2) := by decide +kernel
theorem dX7_know_69 : decode cX7_know 69 = .ok (.aload_n 0, 1) := by decide +kernel
theorem dX7_know_70 : decode cX7_know 70 = .ok (.getfield 64, 3) := by decide +kernel
theorem dX7_know_73 : decode cX7_know 73 = .ok (.iload 5, 2) := by decide +kernel
theorem dX7_know_75 : decode cX7_know 75 = .ok (.iconst 1, 1) := by decide +kernel
theorem dX7_know_76 : decode cX7_know 76 = .ok (.iadd, 1) := by decide +kernel
theorem dX7_know_77 : decode cX7_know 77 = .ok (.iaload, 1) := by decide +kernel
theorem dX7_know_78 : decode cX7_know 78 = .ok (.iastore, 1) := by decide +kernel
theorem dX7_know_79 : decode cX7_know 79 = .ok (.iconst 0, 1) := by decide +kernel
theorem dX7_know_80 : decode cX7_know 80 = .ok (.istore 6, 2) := by decide +kernel
theorem dX7_know_82 : decode cX7_know 82 = .ok (.iload 6, 2) := by decide +kernel
theorem dX7_know_84 : decode cX7_know 84 = .ok (.bipush 12, 2) := by decide +kernel
theorem dX7_know_86 : decode cX7_know 86 = .ok (.if_icmp .ge 38, 3) := by decide +kernel
theorem dX7_know_89 : decode cX7_know 89 = .ok (.aload_n 0, 1) := by decide +kernel
theorem dX7_know_90 : decode cX7_know 90 = .ok (.getfield 67, 3) := by decide +kernel
theorem dX7_know_93 : decode cX7_know 93 = .ok (.bipush 12, 2) := by decide +kernel
theorem dX7_know_95 : decode cX7_know 95 = .ok (.iload 5, 2) := by decide +kernel
theorem dX7_know_97 : decode cX7_know 97 = .ok (.imul, 1) := by decide +kernel
theorem dX7_know_98 : decode cX7_know 98 = .ok (.iload 6, 2) := by decide +kernel
theorem dX7_know_100 : decode cX7_know 100 = .ok (.iadd, 1) := by decide +kernel
theorem dX7_know_101 : decode cX7_know 101 = .ok (.aload_n 0, 1) := by decide +kernel
theorem dX7_know_102 : decode cX7_know 102 = .ok (.getfield 67, 3) := by decide +kernel
theorem dX7_know_105 : decode cX7_know 105 = .ok (.bipush 12, 2) := by decide +kernel
theorem dX7_know_107 : decode cX7_know 107 = .ok (.iload 5, 2) := by decide +kernel
theorem dX7_know_109 : decode cX7_know 109 = .ok (.imul, 1) := by decide +kernel
theorem dX7_know_110 : decode cX7_know 110 = .ok (.bipush 12, 2) := by decide +kernel
theorem dX7_know_112 : decode cX7_know 112 = .ok (.iadd, 1) := by decide +kernel
theorem dX7_know_113 : decode cX7_know 113 = .ok (.iload 6, 2) := by decide +kernel
theorem dX7_know_115 : decode cX7_know 115 = .ok (.iadd, 1) := by decide +kernel
theorem dX7_know_116 : decode cX7_know 116 = .ok (.laload, 1) := by decide +kernel
theorem dX7_know_117 : decode cX7_know 117 = .ok (.lastore, 1) := by decide +kernel
theorem dX7_know_118 : decode cX7_know 118 = .ok (.iinc 6 1, 3) := by decide +kernel
theorem dX7_know_121 : decode cX7_know 121 = .ok (.goto (-39), 3) := by decide +kernel
theorem dX7_know_124 : decode cX7_know 124 = .ok (.iinc 5 1, 3) := by decide +kernel
theorem dX7_know_127 : decode cX7_know 127 = .ok (.goto (-110), 3) := by decide +kernel
theorem dX7_know_130 : decode cX7_know 130 = .ok (.aload_n 0, 1) := by decide +kernel
theorem dX7_know_131 : decode cX7_know 131 = .ok (.getfield 55, 3) := by decide +kernel
theorem dX7_know_134 : decode cX7_know 134 = .ok (.iload_n 1, 1) := by decide +kernel
theorem dX7_know_135 : decode cX7_know 135 = .ok (.dup2, 1) := by decide +kernel
theorem dX7_know_136 : decode cX7_know 136 = .ok (.iaload, 1) := by decide +kernel
theorem dX7_know_137 : decode cX7_know 137 = .ok (.iconst 1, 1) := by decide +kernel
theorem dX7_know_138 : decode cX7_know 138 = .ok (.isub, 1) := by decide +kernel
theorem dX7_know_139 : decode cX7_know 139 = .ok (.iastore, 1) := by decide +kernel
theorem dX7_know_140 : decode cX7_know 140 = .ok (.aload_n 0, 1) := by decide +kernel
theorem dX7_know_141 : decode cX7_know 141 = .ok (.getfield 52, 3) := by decide +kernel
theorem dX7_know_144 : decode cX7_know 144 = .ok (.iload_n 1, 1) := by decide +kernel
theorem dX7_know_145 : decode cX7_know 145 = .ok (.aload_n 0, 1) := by decide +kernel
theorem dX7_know_146 : decode cX7_know 146 = .ok (.getfield 52, 3) := by decide +kernel
theorem dX7_know_149 : decode cX7_know 149 = .ok (.iload_n 1, 1) := by decide +kernel
theorem dX7_know_150 : decode cX7_know 150 = .ok (.iaload, 1) := by decide +kernel
theorem dX7_know_151 : decode cX7_know 151 = .ok (.bipush 60, 2) := by decide +kernel
theorem dX7_know_153 : decode cX7_know 153 = .ok (.if_icmp .ne 8, 3) := by decide +kernel
theorem dX7_know_156 : decode cX7_know 156 = .ok (.bipush 59, 2) := by decide +kernel
theorem dX7_know_158 : decode cX7_know 158 = .ok (.goto 9, 3) := by decide +kernel
theorem dX7_know_161 : decode cX7_know 161 = .ok (.aload_n 0, 1) := by decide +kernel
theorem dX7_know_162 : decode cX7_know 162 = .ok (.getfield 52, 3) := by decide +kernel
theorem dX7_know_165 : decode cX7_know 165 = .ok (.iload_n 1, 1) := by decide +kernel
theorem dX7_know_166 : decode cX7_know 166 = .ok (.iaload, 1) := by decide +kernel
theorem dX7_know_167 : decode cX7_know 167 = .ok (.iastore, 1) := by decide +kernel
theorem dX7_know_168 : decode cX7_know 168 = .ok (.bipush 60, 2) := by decide +kernel
theorem dX7_know_170 : decode cX7_know 170 = .ok (.iload_n 1, 1) := by decide +kernel
theorem dX7_know_171 : decode cX7_know 171 = .ok (.imul, 1) := by decide +kernel
theorem dX7_know_172 : decode cX7_know 172 = .ok (.aload_n 0, 1) := by decide +kernel
theorem dX7_know_173 : decode cX7_know 173 = .ok (.getfield 55, 3) := by decide +kernel
theorem dX7_know_176 : decode cX7_know 176 = .ok (.iload_n 1, 1) := by decide +kernel
theorem dX7_know_177 : decode cX7_know 177 = .ok (.iaload, 1) := by decide +kernel
theorem dX7_know_178 : decode cX7_know 178 = .ok (.iadd, 1) := by decide +kernel
theorem dX7_know_179 : decode cX7_know 179 = .ok (.istore 5, 2) := by decide +kernel
theorem dX7_know_181 : decode cX7_know 181 = .ok (.aload_n 0, 1) := by decide +kernel
theorem dX7_know_182 : decode cX7_know 182 = .ok (.getfield 58, 3) := by decide +kernel
theorem dX7_know_185 : decode cX7_know 185 = .ok (.iload 5, 2) := by decide +kernel
theorem dX7_know_187 : decode cX7_know 187 = .ok (.iload_n 2, 1) := by decide +kernel
theorem dX7_know_188 : decode cX7_know 188 = .ok (.iastore, 1) := by decide +kernel
theorem dX7_know_189 : decode cX7_know 189 = .ok (.aload_n 0, 1) := by decide +kernel
theorem dX7_know_190 : decode cX7_know 190 = .ok (.getfield 61, 3) := by decide +kernel
theorem dX7_know_193 : decode cX7_know 193 = .ok (.iload 5, 2) := by decide +kernel
theorem dX7_know_195 : decode cX7_know 195 = .ok (.iload_n 3, 1) := by decide +kernel
theorem dX7_know_196 : decode cX7_know 196 = .ok (.iastore, 1) := by decide +kernel
theorem dX7_know_197 : decode cX7_know 197 = .ok (.aload_n 0, 1) := by decide +kernel
theorem dX7_know_198 : decode cX7_know 198 = .ok (.getfield 64, 3) := by decide +kernel
theorem dX7_know_201 : decode cX7_know 201 = .ok (.iload 5, 2) := by decide +kernel
theorem dX7_know_203 : decode cX7_know 203 = .ok (.iload 4, 2) := by decide +kernel
theorem dX7_know_205 : decode cX7_know 205 = .ok (.iastore, 1) := by decide +kernel
theorem dX7_know_206 : decode cX7_know 206 = .ok (.iconst 0, 1) := by decide +kernel
theorem dX7_know_207 : decode cX7_know 207 = .ok (.istore 6, 2) := by decide +kernel
theorem dX7_know_209 : decode cX7_know 209 = .ok (.iload 6, 2) := by decide +kernel
theorem dX7_know_211 : decode cX7_know 211 = .ok (.bipush 12, 2) := by decide +kernel
theorem dX7_know_213 : decode cX7_know 213 = .ok (.if_icmp .ge 34, 3) := by decide +kernel
theorem dX7_know_216 : decode cX7_know 216 = .ok (.aload_n 0, 1) := by decide +kernel
theorem dX7_know_217 : decode cX7_know 217 = .ok (.getfield 67, 3) := by decide +kernel
theorem dX7_know_220 : decode cX7_know 220 = .ok (.bipush 12, 2) := by decide +kernel
theorem dX7_know_222 : decode cX7_know 222 = .ok (.iload 5, 2) := by decide +kernel
theorem dX7_know_224 : decode cX7_know 224 = .ok (.imul, 1) := by decide +kernel
theorem dX7_know_225 : decode cX7_know 225 = .ok (.iload 6, 2) := by decide +kernel
theorem dX7_know_227 : decode cX7_know 227 = .ok (.iadd, 1) := by decide +kernel
theorem dX7_know_228 : decode cX7_know 228 = .ok (.aload_n 0, 1) := by decide +kernel
theorem dX7_know_229 : decode cX7_know 229 = .ok (.getfield 32, 3) := by decide +kernel
theorem dX7_know_232 : decode cX7_know 232 = .ok (.bipush 12, 2) := by decide +kernel
theorem dX7_know_234 : decode cX7_know 234 = .ok (.iload_n 1, 1) := by decide +kernel
theorem dX7_know_235 : decode cX7_know 235 = .ok (.imul, 1) := by decide +kernel
theorem dX7_know_236 : decode cX7_know 236 = .ok (.iload 6, 2) := by decide +kernel
theorem dX7_know_238 : decode cX7_know 238 = .ok (.iadd, 1) := by decide +kernel
theorem dX7_know_239 : decode cX7_know 239 = .ok (.laload, 1) := by decide +kernel
theorem dX7_know_240 : decode cX7_know 240 = .ok (.lastore, 1) := by decide +kernel
theorem dX7_know_241 : decode cX7_know 241 = .ok (.iinc 6 1, 3) := by decide +kernel
theorem dX7_know_244 : decode cX7_know 244 = .ok (.goto (-35), 3) := by decide +kernel
theorem dX7_know_247 : decode cX7_know 247 = .ok (.aload_n 0, 1) := by decide +kernel
theorem dX7_know_248 : decode cX7_know 248 = .ok (.getfield 55, 3) := by decide +kernel
theorem dX7_know_251 : decode cX7_know 251 = .ok (.iload_n 1, 1) := by decide +kernel
theorem dX7_know_252 : decode cX7_know 252 = .ok (.dup2, 1) := by decide +kernel
theorem dX7_know_253 : decode cX7_know 253 = .ok (.iaload, 1) := by decide +kernel
theorem dX7_know_254 : decode cX7_know 254 = .ok (.iconst 1, 1) := by decide +kernel
theorem dX7_know_255 : decode cX7_know 255 = .ok (.iadd, 1) := by decide +kernel
theorem dX7_know_256 : decode cX7_know 256 = .ok (.iastore, 1) := by decide +kernel
theorem dX7_know_257 : decode cX7_know 257 = .ok (.aload_n 0, 1) := by decide +kernel
theorem dX7_know_258 : decode cX7_know 258 = .ok (.getfield 52, 3) := by decide +kernel
theorem dX7_know_261 : decode cX7_know 261 = .ok (.iload_n 1, 1) := by decide +kernel
theorem dX7_know_262 : decode cX7_know 262 = .ok (.dup2, 1) := by decide +kernel
theorem dX7_know_263 : decode cX7_know 263 = .ok (.iaload, 1) := by decide +kernel
theorem dX7_know_264 : decode cX7_know 264 = .ok (.aload_n 0, 1) := by decide +kernel
theorem dX7_know_265 : decode cX7_know 265 = .ok (.getfield 49, 3) := by decide +kernel
theorem dX7_know_268 : decode cX7_know 268 = .ok (.iload_n 1, 1) := by decide +kernel
theorem dX7_know_269 : decode cX7_know 269 = .ok (.baload, 1) := by decide +kernel
theorem dX7_know_270 : decode cX7_know 270 = .ok (.ifCond .eq 7, 3) := by decide +kernel
theorem dX7_know_273 : decode cX7_know 273 = .ok (.iconst 1, 1) := by decide +kernel
theorem dX7_know_274 : decode cX7_know 274 = .ok (.goto 4, 3) := by decide +kernel
theorem dX7_know_277 : decode cX7_know 277 = .ok (.iconst 0, 1) := by decide +kernel
theorem dX7_know_278 : decode cX7_know 278 = .ok (.iadd, 1) := by decide +kernel
theorem dX7_know_279 : decode cX7_know 279 = .ok (.iastore, 1) := by decide +kernel
theorem dX7_know_280 : decode cX7_know 280 = .ok (.return_, 1) := by decide +kernel
theorem dX7_change_0 : decode cX7_change 0 = .ok (.aload_n 0, 1) := by decide +kernel
theorem dX7_change_1 : decode cX7_change 1 = .ok (.iload_n 1, 1) := by decide +kernel
theorem dX7_change_2 : decode cX7_change 2 = .ok (.invokevirtual 113, 3) := by decide +kernel
theorem dX7_change_5 : decode cX7_change 5 = .ok (.ifCond .eq 15, 3) := by decide +kernel
theorem dX7_change_8 : decode cX7_change 8 = .ok (.aload_n 0, 1) := by decide +kernel
theorem dX7_change_9 : decode cX7_change 9 = .ok (.iload_n 1, 1) := by decide +kernel
theorem dX7_change_10 : decode cX7_change 10 = .ok (.iload_n 2, 1) := by decide +kernel
theorem dX7_change_11 : decode cX7_change 11 = .ok (.iload_n 3, 1) := by decide +kernel
theorem dX7_change_12 : decode cX7_change 12 = .ok (.iload 4, 2) := by decide +kernel
theorem dX7_change_14 : decode cX7_change 14 = .ok (.invokevirtual 123, 3) := by decide +kernel
theorem dX7_change_17 : decode cX7_change 17 = .ok (.ifCond .ne 5, 3) := by decide +kernel
theorem dX7_change_20 : decode cX7_change 20 = .ok (.iconst (-1), 1) := by decide +kernel
theorem dX7_change_21 : decode cX7_change 21 = .ok (.ireturn, 1) := by decide +kernel
theorem dX7_change_22 : decode cX7_change 22 = .ok (.aload_n 0, 1) := by decide +kernel
theorem dX7_change_23 : decode cX7_change 23 = .ok (.iload_n 1, 1) := by decide +kernel
theorem dX7_change_24 : decode cX7_change 24 = .ok (.invokevirtual 107, 3) := by decide +kernel
theorem dX7_change_27 : decode cX7_change 27 = .ok (.aload_n 0, 1) := by decide +kernel
theorem dX7_change_28 : decode cX7_change 28 = .ok (.iload_n 1, 1) := by decide +kernel
theorem dX7_change_29 : decode cX7_change 29 = .ok (.iload_n 2, 1) := by decide +kernel
theorem dX7_change_30 : decode cX7_change 30 = .ok (.iload_n 3, 1) := by decide +kernel
theorem dX7_change_31 : decode cX7_change 31 = .ok (.aload_n 0, 1) := by decide +kernel
theorem dX7_change_32 : decode cX7_change 32 = .ok (.getfield 79, 3) := by decide +kernel
theorem dX7_change_35 : decode cX7_change 35 = .ok (.iconst 4, 1) := by decide +kernel
theorem dX7_change_36 : decode cX7_change 36 = .ok (.iload_n 2, 1) := by decide +kernel
theorem dX7_change_37 : decode cX7_change 37 = .ok (.imul, 1) := by decide +kernel
theorem dX7_change_38 : decode cX7_change 38 = .ok (.iload_n 3, 1) := by decide +kernel
theorem dX7_change_39 : decode cX7_change 39 = .ok (.iadd, 1) := by decide +kernel
theorem dX7_change_40 : decode cX7_change 40 = .ok (.iaload, 1) := by decide +kernel
theorem dX7_change_41 : decode cX7_change 41 = .ok (.invokevirtual 127, 3) := by decide +kernel
theorem dX7_change_44 : decode cX7_change 44 = .ok (.aload_n 0, 1) := by decide +kernel
theorem dX7_change_45 : decode cX7_change 45 = .ok (.iload_n 1, 1) := by decide +kernel
theorem dX7_change_46 : decode cX7_change 46 = .ok (.iload_n 2, 1) := by decide +kernel
theorem dX7_change_47 : decode cX7_change 47 = .ok (.iload_n 3, 1) := by decide +kernel
theorem dX7_change_48 : decode cX7_change 48 = .ok (.iload 4, 2) := by decide +kernel
theorem dX7_change_50 : decode cX7_change 50 = .ok (.invokevirtual 131, 3) := by decide +kernel
theorem dX7_change_53 : decode cX7_change 53 = .ok (.iconst 0, 1) := by decide +kernel
theorem dX7_change_54 : decode cX7_change 54 = .ok (.istore 5, 2) := by decide +kernel
theorem dX7_change_56 : decode cX7_change 56 = .ok (.iload 5, 2) := by decide +kernel
theorem dX7_change_58 : decode cX7_change 58 = .ok (.aload_n 0, 1) := by decide +kernel
theorem dX7_change_59 : decode cX7_change 59 = .ok (.getfield 96, 3) := by decide +kernel
theorem dX7_change_62 : decode cX7_change 62 = .ok (.if_icmp .ge 58, 3) := by decide +kernel
theorem dX7_change_65 : decode cX7_change 65 = .ok (.aload_n 0, 1) := by decide +kernel
theorem dX7_change_66 : decode cX7_change 66 = .ok (.getfield 32, 3) := by decide +kernel
theorem dX7_change_69 : decode cX7_change 69 = .ok (.bipush 12, 2) := by decide +kernel
theorem dX7_change_71 : decode cX7_change 71 = .ok (.iload_n 1, 1) := by decide +kernel
theorem dX7_change_72 : decode cX7_change 72 = .ok (.imul, 1) := by decide +kernel
theorem dX7_change_73 : decode cX7_change 73 = .ok (.iload 5, 2) := by decide +kernel
theorem dX7_change_75 : decode cX7_change 75 = .ok (.iadd, 1) := by decide +kernel
theorem dX7_change_76 : decode cX7_change 76 = .ok (.dup2, 1) := by decide +kernel
theorem dX7_change_77 : decode cX7_change 77 = .ok (.laload, 1) := by decide +kernel
theorem dX7_change_78 : decode cX7_change 78 = .ok (.aload_n 0, 1) := by decide +kernel
theorem dX7_change_79 : decode cX7_change 79 = .ok (.getfield 36, 3) := by decide +kernel
theorem dX7_change_82 : decode cX7_change 82 = .ok (.bipush 12, 2) := by decide +kernel
theorem dX7_change_84 : decode cX7_change 84 = .ok (.iload_n 1, 1) := by decide +kernel
theorem dX7_change_85 : decode cX7_change 85 = .ok (.imul, 1) := by decide +kernel
theorem dX7_change_86 : decode cX7_change 86 = .ok (.iload 5, 2) := by decide +kernel
theorem dX7_change_88 : decode cX7_change 88 = .ok (.iadd, 1) := by decide +kernel
theorem dX7_change_89 : decode cX7_change 89 = .ok (.baload, 1) := by decide +kernel
theorem dX7_change_90 : decode cX7_change 90 = .ok (.ifCond .eq 7, 3) := by decide +kernel
theorem dX7_change_93 : decode cX7_change 93 = .ok (.lconst 0, 1) := by decide +kernel
theorem dX7_change_94 : decode cX7_change 94 = .ok (.goto 18, 3) := by decide +kernel
theorem dX7_change_97 : decode cX7_change 97 = .ok (.aload_n 0, 1) := by decide +kernel
theorem dX7_change_98 : decode cX7_change 98 = .ok (.iload_n 1, 1) := by decide +kernel
theorem dX7_change_99 : decode cX7_change 99 = .ok (.iload 5, 2) := by decide +kernel
theorem dX7_change_101 : decode cX7_change 101 = .ok (.invokevirtual 99, 3) := by decide +kernel
theorem dX7_change_104 : decode cX7_change 104 = .ok (.aload_n 0, 1) := by decide +kernel
theorem dX7_change_105 : decode cX7_change 105 = .ok (.getfield 82, 3) := by decide +kernel
theorem dX7_change_108 : decode cX7_change 108 = .ok (.iload 5, 2) := by decide +kernel
theorem dX7_change_110 : decode cX7_change 110 = .ok (.laload, 1) := by decide +kernel
theorem dX7_change_111 : decode cX7_change 111 = .ok (.lsub, 1) := by decide +kernel
theorem dX7_change_112 : decode cX7_change 112 = .ok (.ladd, 1) := by decide +kernel
theorem dX7_change_113 : decode cX7_change 113 = .ok (.lastore, 1) := by decide +kernel
theorem dX7_change_114 : decode cX7_change 114 = .ok (.iinc 5 1, 3) := by decide +kernel
theorem dX7_change_117 : decode cX7_change 117 = .ok (.goto (-61), 3) := by decide +kernel
theorem dX7_change_120 : decode cX7_change 120 = .ok (.aload_n 0, 1) := by decide +kernel
theorem dX7_change_121 : decode cX7_change 121 = .ok (.getfield 43, 3) := by decide +kernel
theorem dX7_change_124 : decode cX7_change 124 = .ok (.iload_n 1, 1) := by decide +kernel
theorem dX7_change_125 : decode cX7_change 125 = .ok (.dup2, 1) := by decide +kernel
theorem dX7_change_126 : decode cX7_change 126 = .ok (.iaload, 1) := by decide +kernel
theorem dX7_change_127 : decode cX7_change 127 = .ok (.aload_n 0, 1) := by decide +kernel
theorem dX7_change_128 : decode cX7_change 128 = .ok (.iload_n 1, 1) := by decide +kernel
theorem dX7_change_129 : decode cX7_change 129 = .ok (.invokevirtual 134, 3) := by decide +kernel
theorem dX7_change_132 : decode cX7_change 132 = .ok (.iadd, 1) := by decide +kernel
theorem dX7_change_133 : decode cX7_change 133 = .ok (.iastore, 1) := by decide +kernel
theorem dX7_change_134 : decode cX7_change 134 = .ok (.aload_n 0, 1) := by decide +kernel
theorem dX7_change_135 : decode cX7_change 135 = .ok (.getfield 40, 3) := by decide +kernel
theorem dX7_change_138 : decode cX7_change 138 = .ok (.iload_n 1, 1) := by decide +kernel
theorem dX7_change_139 : decode cX7_change 139 = .ok (.dup2, 1) := by decide +kernel
theorem dX7_change_140 : decode cX7_change 140 = .ok (.iaload, 1) := by decide +kernel
theorem dX7_change_141 : decode cX7_change 141 = .ok (.iconst 1, 1) := by decide +kernel
theorem dX7_change_142 : decode cX7_change 142 = .ok (.iadd, 1) := by decide +kernel
theorem dX7_change_143 : decode cX7_change 143 = .ok (.iastore, 1) := by decide +kernel
theorem dX7_change_144 : decode cX7_change 144 = .ok (.aload_n 0, 1) := by decide +kernel
theorem dX7_change_145 : decode cX7_change 145 = .ok (.getfield 138, 3) := by decide +kernel
theorem dX7_change_148 : decode cX7_change 148 = .ok (.ifCond .le 28, 3) := by decide +kernel
theorem dX7_change_151 : decode cX7_change 151 = .ok (.aload_n 0, 1) := by decide +kernel
theorem dX7_change_152 : decode cX7_change 152 = .ok (.getfield 40, 3) := by decide +kernel
theorem dX7_change_155 : decode cX7_change 155 = .ok (.iload_n 1, 1) := by decide +kernel
theorem dX7_change_156 : decode cX7_change 156 = .ok (.iaload, 1) := by decide +kernel
theorem dX7_change_157 : decode cX7_change 157 = .ok (.aload_n 0, 1) := by decide +kernel
theorem dX7_change_158 : decode cX7_change 158 = .ok (.getfield 138, 3) := by decide +kernel
theorem dX7_change_161 : decode cX7_change 161 = .ok (.irem, 1) := by decide +kernel
theorem dX7_change_162 : decode cX7_change 162 = .ok (.ifCond .ne 14, 3) := by decide +kernel
theorem dX7_change_165 : decode cX7_change 165 = .ok (.aload_n 0, 1) := by decide +kernel
theorem dX7_change_166 : decode cX7_change 166 = .ok (.getfield 46, 3) := by decide +kernel
theorem dX7_change_169 : decode cX7_change 169 = .ok (.iload_n 1, 1) := by decide +kernel
theorem dX7_change_170 : decode cX7_change 170 = .ok (.aload_n 0, 1) := by decide +kernel
theorem dX7_change_171 : decode cX7_change 171 = .ok (.iload_n 1, 1) := by decide +kernel
theorem dX7_change_172 : decode cX7_change 172 = .ok (.invokevirtual 141, 3) := by decide +kernel
theorem dX7_change_175 : decode cX7_change 175 = .ok (.iastore, 1) := by decide +kernel
theorem dX7_change_176 : decode cX7_change 176 = .ok (.aload_n 0, 1) := by decide +kernel
theorem dX7_change_177 : decode cX7_change 177 = .ok (.iload_n 1, 1) := by decide +kernel
theorem dX7_change_178 : decode cX7_change 178 = .ok (.invokevirtual 144, 3) := by decide +kernel
theorem dX7_change_181 : decode cX7_change 181 = .ok (.ireturn, 1) := by decide +kernel
theorem dX7_attempt_0 : decode cX7_attempt 0 = .ok (.aload_n 0, 1) := by decide +kernel
theorem dX7_attempt_1 : decode cX7_attempt 1 = .ok (.iload_n 1, 1) := by decide +kernel
theorem dX7_attempt_2 : decode cX7_attempt 2 = .ok (.invokevirtual 113, 3) := by decide +kernel
theorem dX7_attempt_5 : decode cX7_attempt 5 = .ok (.ifCond .eq 13, 3) := by decide +kernel
theorem dX7_attempt_8 : decode cX7_attempt 8 = .ok (.iload 5, 2) := by decide +kernel
theorem dX7_attempt_10 : decode cX7_attempt 10 = .ok (.iconst 0, 1) := by decide +kernel
theorem dX7_attempt_11 : decode cX7_attempt 11 = .ok (.iconst 2, 1) := by decide +kernel
theorem dX7_attempt_12 : decode cX7_attempt 12 = .ok (.invokestatic 85, 3) := by decide +kernel
theorem dX7_attempt_15 : decode cX7_attempt 15 = .ok (.ifCond .ne 7, 3) := by decide +kernel
theorem dX7_attempt_18 : decode cX7_attempt 18 = .ok (.ldc2_w 147, 3) := by decide +kernel
theorem dX7_attempt_21 : decode cX7_attempt 21 = .ok (.lreturn, 1) := by decide +kernel
theorem dX7_attempt_22 : decode cX7_attempt 22 = .ok (.aload_n 0, 1) := by decide +kernel
theorem dX7_attempt_23 : decode cX7_attempt 23 = .ok (.iload_n 1, 1) := by decide +kernel
theorem dX7_attempt_24 : decode cX7_attempt 24 = .ok (.iload 5, 2) := by decide +kernel
theorem dX7_attempt_26 : decode cX7_attempt 26 = .ok (.invokevirtual 149, 3) := by decide +kernel
theorem dX7_attempt_29 : decode cX7_attempt 29 = .ok (.lstore 6, 2) := by decide +kernel
theorem dX7_attempt_31 : decode cX7_attempt 31 = .ok (.aload_n 0, 1) := by decide +kernel
theorem dX7_attempt_32 : decode cX7_attempt 32 = .ok (.iload_n 1, 1) := by decide +kernel
theorem dX7_attempt_33 : decode cX7_attempt 33 = .ok (.iload_n 2, 1) := by decide +kernel
theorem dX7_attempt_34 : decode cX7_attempt 34 = .ok (.iload_n 3, 1) := by decide +kernel
theorem dX7_attempt_35 : decode cX7_attempt 35 = .ok (.iload 4, 2) := by decide +kernel
theorem dX7_attempt_37 : decode cX7_attempt 37 = .ok (.invokevirtual 123, 3) := by decide +kernel
theorem dX7_attempt_40 : decode cX7_attempt 40 = .ok (.ifCond .ne 6, 3) := by decide +kernel
theorem dX7_attempt_43 : decode cX7_attempt 43 = .ok (.lload 6, 2) := by decide +kernel
theorem dX7_attempt_45 : decode cX7_attempt 45 = .ok (.lreturn, 1) := by decide +kernel
theorem dX7_attempt_46 : decode cX7_attempt 46 = .ok (.aload_n 0, 1) := by decide +kernel
theorem dX7_attempt_47 : decode cX7_attempt 47 = .ok (.iload_n 1, 1) := by decide +kernel
theorem dX7_attempt_48 : decode cX7_attempt 48 = .ok (.invokevirtual 107, 3) := by decide +kernel
theorem dX7_attempt_51 : decode cX7_attempt 51 = .ok (.aload_n 0, 1) := by decide +kernel
theorem dX7_attempt_52 : decode cX7_attempt 52 = .ok (.iload_n 1, 1) := by decide +kernel
theorem dX7_attempt_53 : decode cX7_attempt 53 = .ok (.iload_n 2, 1) := by decide +kernel
theorem dX7_attempt_54 : decode cX7_attempt 54 = .ok (.iload_n 3, 1) := by decide +kernel
theorem dX7_attempt_55 : decode cX7_attempt 55 = .ok (.iload 4, 2) := by decide +kernel
theorem dX7_attempt_57 : decode cX7_attempt 57 = .ok (.invokevirtual 131, 3) := by decide +kernel
theorem dX7_attempt_60 : decode cX7_attempt 60 = .ok (.iconst 0, 1) := by decide +kernel
theorem dX7_attempt_61 : decode cX7_attempt 61 = .ok (.istore 8, 2) := by decide +kernel
theorem dX7_attempt_63 : decode cX7_attempt 63 = .ok (.iload 8, 2) := by decide +kernel
theorem dX7_attempt_65 : decode cX7_attempt 65 = .ok (.aload_n 0, 1) := by decide +kernel
theorem dX7_attempt_66 : decode cX7_attempt 66 = .ok (.getfield 96, 3) := by decide +kernel
theorem dX7_attempt_69 : decode cX7_attempt 69 = .ok (.if_icmp .ge 60, 3) := by decide +kernel
theorem dX7_attempt_72 : decode cX7_attempt 72 = .ok (.lload 6, 2) := by decide +kernel
theorem dX7_attempt_74 : decode cX7_attempt 74 = .ok (.aload_n 0, 1) := by decide +kernel
theorem dX7_attempt_75 : decode cX7_attempt 75 = .ok (.getfield 22, 3) := by decide +kernel
theorem dX7_attempt_78 : decode cX7_attempt 78 = .ok (.iload 8, 2) := by decide +kernel
theorem dX7_attempt_80 : decode cX7_attempt 80 = .ok (.iaload, 1) := by decide +kernel
theorem dX7_attempt_81 : decode cX7_attempt 81 = .ok (.iload 5, 2) := by decide +kernel
theorem dX7_attempt_83 : decode cX7_attempt 83 = .ok (.if_icmp .ne 36, 3) := by decide +kernel
theorem dX7_attempt_86 : decode cX7_attempt 86 = .ok (.aload_n 0, 1) := by decide +kernel
theorem dX7_attempt_87 : decode cX7_attempt 87 = .ok (.getfield 36, 3) := by decide +kernel
theorem dX7_attempt_90 : decode cX7_attempt 90 = .ok (.bipush 12, 2) := by decide +kernel
theorem dX7_attempt_92 : decode cX7_attempt 92 = .ok (.iload_n 1, 1) := by decide +kernel
theorem dX7_attempt_93 : decode cX7_attempt 93 = .ok (.imul, 1) := by decide +kernel
theorem dX7_attempt_94 : decode cX7_attempt 94 = .ok (.iload 8, 2) := by decide +kernel
theorem dX7_attempt_96 : decode cX7_attempt 96 = .ok (.iadd, 1) := by decide +kernel
theorem dX7_attempt_97 : decode cX7_attempt 97 = .ok (.baload, 1) := by decide +kernel
theorem dX7_attempt_98 : decode cX7_attempt 98 = .ok (.ifCond .ne 21, 3) := by decide +kernel
theorem dX7_attempt_101 : decode cX7_attempt 101 = .ok (.aload_n 0, 1) := by decide +kernel
theorem dX7_attempt_102 : decode cX7_attempt 102 = .ok (.iload_n 1, 1) := by decide +kernel
theorem dX7_attempt_103 : decode cX7_attempt 103 = .ok (.iload 8, 2) := by decide +kernel
theorem dX7_attempt_105 : decode cX7_attempt 105 = .ok (.invokevirtual 99, 3) := by decide +kernel
theorem dX7_attempt_108 : decode cX7_attempt 108 = .ok (.aload_n 0, 1) := by decide +kernel
theorem dX7_attempt_109 : decode cX7_attempt 109 = .ok (.getfield 82, 3) := by decide +kernel
theorem dX7_attempt_112 : decode cX7_attempt 112 = .ok (.iload 8, 2) := by decide +kernel
theorem dX7_attempt_114 : decode cX7_attempt 114 = .ok (.laload, 1) := by decide +kernel
theorem dX7_attempt_115 : decode cX7_attempt 115 = .ok (.lsub, 1) := by decide +kernel
theorem dX7_attempt_116 : decode cX7_attempt 116 = .ok (.goto 4, 3) := by decide +kernel
theorem dX7_attempt_119 : decode cX7_attempt 119 = .ok (.lconst 0, 1) := by decide +kernel
theorem dX7_attempt_120 : decode cX7_attempt 120 = .ok (.ladd, 1) := by decide +kernel
theorem dX7_attempt_121 : decode cX7_attempt 121 = .ok (.lstore 6, 2) := by decide +kernel
theorem dX7_attempt_123 : decode cX7_attempt 123 = .ok (.iinc 8 1, 3) := by decide +kernel
theorem dX7_attempt_126 : decode cX7_attempt 126 = .ok (.goto (-63), 3) := by decide +kernel
theorem dX7_attempt_129 : decode cX7_attempt 129 = .ok (.iconst 0, 1) := by decide +kernel
theorem dX7_attempt_130 : decode cX7_attempt 130 = .ok (.istore 8, 2) := by decide +kernel
theorem dX7_attempt_132 : decode cX7_attempt 132 = .ok (.iload 8, 2) := by decide +kernel
theorem dX7_attempt_134 : decode cX7_attempt 134 = .ok (.sipush 160, 3) := by decide +kernel
theorem dX7_attempt_137 : decode cX7_attempt 137 = .ok (.if_icmp .ge 29, 3) := by decide +kernel
theorem dX7_attempt_140 : decode cX7_attempt 140 = .ok (.aload_n 0, 1) := by decide +kernel
theorem dX7_attempt_141 : decode cX7_attempt 141 = .ok (.getfield 29, 3) := by decide +kernel
theorem dX7_attempt_144 : decode cX7_attempt 144 = .ok (.sipush 160, 3) := by decide +kernel
theorem dX7_attempt_147 : decode cX7_attempt 147 = .ok (.iload_n 1, 1) := by decide +kernel
theorem dX7_attempt_148 : decode cX7_attempt 148 = .ok (.imul, 1) := by decide +kernel
theorem dX7_attempt_149 : decode cX7_attempt 149 = .ok (.iload 8, 2) := by decide +kernel
theorem dX7_attempt_151 : decode cX7_attempt 151 = .ok (.iadd, 1) := by decide +kernel
theorem dX7_attempt_152 : decode cX7_attempt 152 = .ok (.aload_n 0, 1) := by decide +kernel
theorem dX7_attempt_153 : decode cX7_attempt 153 = .ok (.getfield 79, 3) := by decide +kernel
theorem dX7_attempt_156 : decode cX7_attempt 156 = .ok (.iload 8, 2) := by decide +kernel
theorem dX7_attempt_158 : decode cX7_attempt 158 = .ok (.iaload, 1) := by decide +kernel
theorem dX7_attempt_159 : decode cX7_attempt 159 = .ok (.iastore, 1) := by decide +kernel
theorem dX7_attempt_160 : decode cX7_attempt 160 = .ok (.iinc 8 1, 3) := by decide +kernel
theorem dX7_attempt_163 : decode cX7_attempt 163 = .ok (.goto (-31), 3) := by decide +kernel
theorem dX7_attempt_166 : decode cX7_attempt 166 = .ok (.lload 6, 2) := by decide +kernel
theorem dX7_attempt_168 : decode cX7_attempt 168 = .ok (.lreturn, 1) := by decide +kernel
theorem dX7_takeBack_0 : decode cX7_takeBack 0 = .ok (.aload_n 0, 1) := by decide +kernel
theorem dX7_takeBack_1 : decode cX7_takeBack 1 = .ok (.iload_n 1, 1) := by decide +kernel
theorem dX7_takeBack_2 : decode cX7_takeBack 2 = .ok (.invokevirtual 107, 3) := by decide +kernel
theorem dX7_takeBack_5 : decode cX7_takeBack 5 = .ok (.aload_n 0, 1) := by decide +kernel
theorem dX7_takeBack_6 : decode cX7_takeBack 6 = .ok (.getfield 55, 3) := by decide +kernel
theorem dX7_takeBack_9 : decode cX7_takeBack 9 = .ok (.iload_n 1, 1) := by decide +kernel
theorem dX7_takeBack_10 : decode cX7_takeBack 10 = .ok (.dup2, 1) := by decide +kernel
theorem dX7_takeBack_11 : decode cX7_takeBack 11 = .ok (.iaload, 1) := by decide +kernel
theorem dX7_takeBack_12 : decode cX7_takeBack 12 = .ok (.iconst 1, 1) := by decide +kernel
theorem dX7_takeBack_13 : decode cX7_takeBack 13 = .ok (.isub, 1) := by decide +kernel
theorem dX7_takeBack_14 : decode cX7_takeBack 14 = .ok (.iastore, 1) := by decide +kernel
theorem dX7_takeBack_15 : decode cX7_takeBack 15 = .ok (.aload_n 0, 1) := by decide +kernel
theorem dX7_takeBack_16 : decode cX7_takeBack 16 = .ok (.getfield 52, 3) := by decide +kernel
theorem dX7_takeBack_19 : decode cX7_takeBack 19 = .ok (.iload_n 1, 1) := by decide +kernel
theorem dX7_takeBack_20 : decode cX7_takeBack 20 = .ok (.dup2, 1) := by decide +kernel
theorem dX7_takeBack_21 : decode cX7_takeBack 21 = .ok (.iaload, 1) := by decide +kernel
theorem dX7_takeBack_22 : decode cX7_takeBack 22 = .ok (.aload_n 0, 1) := by decide +kernel
theorem dX7_takeBack_23 : decode cX7_takeBack 23 = .ok (.getfield 49, 3) := by decide +kernel
theorem dX7_takeBack_26 : decode cX7_takeBack 26 = .ok (.iload_n 1, 1) := by decide +kernel
theorem dX7_takeBack_27 : decode cX7_takeBack 27 = .ok (.baload, 1) := by decide +kernel
theorem dX7_takeBack_28 : decode cX7_takeBack 28 = .ok (.ifCond .eq 7, 3) := by decide +kernel
theorem dX7_takeBack_31 : decode cX7_takeBack 31 = .ok (.iconst 1, 1) := by decide +kernel
theorem dX7_takeBack_32 : decode cX7_takeBack 32 = .ok (.goto 4, 3) := by decide +kernel
theorem dX7_takeBack_35 : decode cX7_takeBack 35 = .ok (.iconst 0, 1) := by decide +kernel
theorem dX7_takeBack_36 : decode cX7_takeBack 36 = .ok (.isub, 1) := by decide +kernel
theorem dX7_takeBack_37 : decode cX7_takeBack 37 = .ok (.iastore, 1) := by decide +kernel
theorem dX7_takeBack_38 : decode cX7_takeBack 38 = .ok (.bipush 60, 2) := by decide +kernel
theorem dX7_takeBack_40 : decode cX7_takeBack 40 = .ok (.iload_n 1, 1) := by decide +kernel
theorem dX7_takeBack_41 : decode cX7_takeBack 41 = .ok (.imul, 1) := by decide +kernel
theorem dX7_takeBack_42 : decode cX7_takeBack 42 = .ok (.aload_n 0, 1) := by decide +kernel
theorem dX7_takeBack_43 : decode cX7_takeBack 43 = .ok (.getfield 55, 3) := by decide +kernel
theorem dX7_takeBack_46 : decode cX7_takeBack 46 = .ok (.iload_n 1, 1) := by decide +kernel
theorem dX7_takeBack_47 : decode cX7_takeBack 47 = .ok (.iaload, 1) := by decide +kernel
theorem dX7_takeBack_48 : decode cX7_takeBack 48 = .ok (.iadd, 1) := by decide +kernel
theorem dX7_takeBack_49 : decode cX7_takeBack 49 = .ok (.istore_n 2, 1) := by decide +kernel
theorem dX7_takeBack_50 : decode cX7_takeBack 50 = .ok (.aload_n 0, 1) := by decide +kernel
theorem dX7_takeBack_51 : decode cX7_takeBack 51 = .ok (.iload_n 1, 1) := by decide +kernel
theorem dX7_takeBack_52 : decode cX7_takeBack 52 = .ok (.aload_n 0, 1) := by decide +kernel
theorem dX7_takeBack_53 : decode cX7_takeBack 53 = .ok (.getfield 58, 3) := by decide +kernel
theorem dX7_takeBack_56 : decode cX7_takeBack 56 = .ok (.iload_n 2, 1) := by decide +kernel
theorem dX7_takeBack_57 : decode cX7_takeBack 57 = .ok (.iaload, 1) := by decide +kernel
theorem dX7_takeBack_58 : decode cX7_takeBack 58 = .ok (.aload_n 0, 1) := by decide +kernel
theorem dX7_takeBack_59 : decode cX7_takeBack 59 = .ok (.getfield 61, 3) := by decide +kernel
theorem dX7_takeBack_62 : decode cX7_takeBack 62 = .ok (.iload_n 2, 1) := by decide +kernel
theorem dX7_takeBack_63 : decode cX7_takeBack 63 = .ok (.iaload, 1) := by decide +kernel
theorem dX7_takeBack_64 : decode cX7_takeBack 64 = .ok (.aload_n 0, 1) := by decide +kernel
theorem dX7_takeBack_65 : decode cX7_takeBack 65 = .ok (.getfield 64, 3) := by decide +kernel
theorem dX7_takeBack_68 : decode cX7_takeBack 68 = .ok (.iload_n 2, 1) := by decide +kernel
theorem dX7_takeBack_69 : decode cX7_takeBack 69 = .ok (.iaload, 1) := by decide +kernel
theorem dX7_takeBack_70 : decode cX7_takeBack 70 = .ok (.invokevirtual 131, 3) := by decide +kernel
theorem dX7_takeBack_73 : decode cX7_takeBack 73 = .ok (.iconst 0, 1) := by decide +kernel
theorem dX7_takeBack_74 : decode cX7_takeBack 74 = .ok (.istore_n 3, 1) := by decide +kernel
theorem dX7_takeBack_75 : decode cX7_takeBack 75 = .ok (.iload_n 3, 1) := by decide +kernel
theorem dX7_takeBack_76 : decode cX7_takeBack 76 = .ok (.bipush 12, 2) := by decide +kernel
theorem dX7_takeBack_78 : decode cX7_takeBack 78 = .ok (.if_icmp .ge 31, 3) := by decide +kernel
theorem dX7_takeBack_81 : decode cX7_takeBack 81 = .ok (.aload_n 0, 1) := by decide +kernel
theorem dX7_takeBack_82 : decode cX7_takeBack 82 = .ok (.getfield 32, 3) := by decide +kernel
theorem dX7_takeBack_85 : decode cX7_takeBack 85 = .ok (.bipush 12, 2) := by decide +kernel
theorem dX7_takeBack_87 : decode cX7_takeBack 87 = .ok (.iload_n 1, 1) := by decide +kernel
theorem dX7_takeBack_88 : decode cX7_takeBack 88 = .ok (.imul, 1) := by decide +kernel
theorem dX7_takeBack_89 : decode cX7_takeBack 89 = .ok (.iload_n 3, 1) := by decide +kernel
theorem dX7_takeBack_90 : decode cX7_takeBack 90 = .ok (.iadd, 1) := by decide +kernel
theorem dX7_takeBack_91 : decode cX7_takeBack 91 = .ok (.aload_n 0, 1) := by decide +kernel
theorem dX7_takeBack_92 : decode cX7_takeBack 92 = .ok (.getfield 67, 3) := by decide +kernel
theorem dX7_takeBack_95 : decode cX7_takeBack 95 = .ok (.bipush 12, 2) := by decide +kernel
theorem dX7_takeBack_97 : decode cX7_takeBack 97 = .ok (.iload_n 2, 1) := by decide +kernel
theorem dX7_takeBack_98 : decode cX7_takeBack 98 = .ok (.imul, 1) := by decide +kernel
theorem dX7_takeBack_99 : decode cX7_takeBack 99 = .ok (.iload_n 3, 1) := by decide +kernel
theorem dX7_takeBack_100 : decode cX7_takeBack 100 = .ok (.iadd, 1) := by decide +kernel
theorem dX7_takeBack_101 : decode cX7_takeBack 101 = .ok (.laload, 1) := by decide +kernel
theorem dX7_takeBack_102 : decode cX7_takeBack 102 = .ok (.lastore, 1) := by decide +kernel
theorem dX7_takeBack_103 : decode cX7_takeBack 103 = .ok (.iinc 3 1, 3) := by decide +kernel
theorem dX7_takeBack_106 : decode cX7_takeBack 106 = .ok (.goto (-31), 3) := by decide +kernel
theorem dX7_takeBack_109 : decode cX7_takeBack 109 = .ok (.aload_n 0, 1) := by decide +kernel
theorem dX7_takeBack_110 : decode cX7_takeBack 110 = .ok (.getfield 43, 3) := by decide +kernel
theorem dX7_takeBack_113 : decode cX7_takeBack 113 = .ok (.iload_n 1, 1) := by decide +kernel
theorem dX7_takeBack_114 : decode cX7_takeBack 114 = .ok (.dup2, 1) := by decide +kernel
theorem dX7_takeBack_115 : decode cX7_takeBack 115 = .ok (.iaload, 1) := by decide +kernel
theorem dX7_takeBack_116 : decode cX7_takeBack 116 = .ok (.aload_n 0, 1) := by decide +kernel
theorem dX7_takeBack_117 : decode cX7_takeBack 117 = .ok (.iload_n 1, 1) := by decide +kernel
theorem dX7_takeBack_118 : decode cX7_takeBack 118 = .ok (.invokevirtual 134, 3) := by decide +kernel
theorem dX7_takeBack_121 : decode cX7_takeBack 121 = .ok (.iadd, 1) := by decide +kernel
theorem dX7_takeBack_122 : decode cX7_takeBack 122 = .ok (.iastore, 1) := by decide +kernel
theorem dX7_takeBack_123 : decode cX7_takeBack 123 = .ok (.return_, 1) := by decide +kernel
theorem dX7_undo_0 : decode cX7_undo 0 = .ok (.aload_n 0, 1) := by decide +kernel
theorem dX7_undo_1 : decode cX7_undo 1 = .ok (.iload_n 1, 1) := by decide +kernel
theorem dX7_undo_2 : decode cX7_undo 2 = .ok (.invokevirtual 113, 3) := by decide +kernel
theorem dX7_undo_5 : decode cX7_undo 5 = .ok (.ifCond .ne 5, 3) := by decide +kernel
theorem dX7_undo_8 : decode cX7_undo 8 = .ok (.iconst (-1), 1) := by decide +kernel
theorem dX7_undo_9 : decode cX7_undo 9 = .ok (.ireturn, 1) := by decide +kernel
theorem dX7_undo_10 : decode cX7_undo 10 = .ok (.aload_n 0, 1) := by decide +kernel
theorem dX7_undo_11 : decode cX7_undo 11 = .ok (.getfield 55, 3) := by decide +kernel
theorem dX7_undo_14 : decode cX7_undo 14 = .ok (.iload_n 1, 1) := by decide +kernel
theorem dX7_undo_15 : decode cX7_undo 15 = .ok (.iaload, 1) := by decide +kernel
theorem dX7_undo_16 : decode cX7_undo 16 = .ok (.ifCond .eq 21, 3) := by decide +kernel
theorem dX7_undo_19 : decode cX7_undo 19 = .ok (.aload_n 0, 1) := by decide +kernel
theorem dX7_undo_20 : decode cX7_undo 20 = .ok (.getfield 49, 3) := by decide +kernel
theorem dX7_undo_23 : decode cX7_undo 23 = .ok (.iload_n 1, 1) := by decide +kernel
theorem dX7_undo_24 : decode cX7_undo 24 = .ok (.baload, 1) := by decide +kernel
theorem dX7_undo_25 : decode cX7_undo 25 = .ok (.ifCond .eq 15, 3) := by decide +kernel
theorem dX7_undo_28 : decode cX7_undo 28 = .ok (.aload_n 0, 1) := by decide +kernel
theorem dX7_undo_29 : decode cX7_undo 29 = .ok (.getfield 52, 3) := by decide +kernel
theorem dX7_undo_32 : decode cX7_undo 32 = .ok (.iload_n 1, 1) := by decide +kernel
theorem dX7_undo_33 : decode cX7_undo 33 = .ok (.iaload, 1) := by decide +kernel
theorem dX7_undo_34 : decode cX7_undo 34 = .ok (.ifCond .ne 6, 3) := by decide +kernel
theorem dX7_undo_37 : decode cX7_undo 37 = .ok (.bipush (-3), 2) := by decide +kernel
theorem dX7_undo_39 : decode cX7_undo 39 = .ok (.ireturn, 1) := by decide +kernel
theorem dX7_undo_40 : decode cX7_undo 40 = .ok (.aload_n 0, 1) := by decide +kernel
theorem dX7_undo_41 : decode cX7_undo 41 = .ok (.iload_n 1, 1) := by decide +kernel
theorem dX7_undo_42 : decode cX7_undo 42 = .ok (.invokevirtual 152, 3) := by decide +kernel
theorem dX7_undo_45 : decode cX7_undo 45 = .ok (.aload_n 0, 1) := by decide +kernel
theorem dX7_undo_46 : decode cX7_undo 46 = .ok (.getfield 55, 3) := by decide +kernel
theorem dX7_undo_49 : decode cX7_undo 49 = .ok (.iload_n 1, 1) := by decide +kernel
theorem dX7_undo_50 : decode cX7_undo 50 = .ok (.iaload, 1) := by decide +kernel
theorem dX7_undo_51 : decode cX7_undo 51 = .ok (.ireturn, 1) := by decide +kernel
theorem dX7_begin_0 : decode cX7_begin 0 = .ok (.aload_n 0, 1) := by decide +kernel
theorem dX7_begin_1 : decode cX7_begin 1 = .ok (.iload_n 1, 1) := by decide +kernel
theorem dX7_begin_2 : decode cX7_begin 2 = .ok (.invokevirtual 113, 3) := by decide +kernel
theorem dX7_begin_5 : decode cX7_begin 5 = .ok (.ifCond .ne 5, 3) := by decide +kernel
theorem dX7_begin_8 : decode cX7_begin 8 = .ok (.iconst (-1), 1) := by decide +kernel
theorem dX7_begin_9 : decode cX7_begin 9 = .ok (.ireturn, 1) := by decide +kernel
theorem dX7_begin_10 : decode cX7_begin 10 = .ok (.aload_n 0, 1) := by decide +kernel
theorem dX7_begin_11 : decode cX7_begin 11 = .ok (.getfield 49, 3) := by decide +kernel
theorem dX7_begin_14 : decode cX7_begin 14 = .ok (.iload_n 1, 1) := by decide +kernel
theorem dX7_begin_15 : decode cX7_begin 15 = .ok (.baload, 1) := by decide +kernel
theorem dX7_begin_16 : decode cX7_begin 16 = .ok (.ifCond .eq 6, 3) := by decide +kernel
theorem dX7_begin_19 : decode cX7_begin 19 = .ok (.bipush (-3), 2) := by decide +kernel
theorem dX7_begin_21 : decode cX7_begin 21 = .ok (.ireturn, 1) := by decide +kernel
theorem dX7_begin_22 : decode cX7_begin 22 = .ok (.aload_n 0, 1) := by decide +kernel
theorem dX7_begin_23 : decode cX7_begin 23 = .ok (.getfield 49, 3) := by decide +kernel
theorem dX7_begin_26 : decode cX7_begin 26 = .ok (.iload_n 1, 1) := by decide +kernel
theorem dX7_begin_27 : decode cX7_begin 27 = .ok (.iconst 1, 1) := by decide +kernel
theorem dX7_begin_28 : decode cX7_begin 28 = .ok (.bastore, 1) := by decide +kernel
theorem dX7_begin_29 : decode cX7_begin 29 = .ok (.aload_n 0, 1) := by decide +kernel
theorem dX7_begin_30 : decode cX7_begin 30 = .ok (.getfield 52, 3) := by decide +kernel
theorem dX7_begin_33 : decode cX7_begin 33 = .ok (.iload_n 1, 1) := by decide +kernel
theorem dX7_begin_34 : decode cX7_begin 34 = .ok (.iconst 0, 1) := by decide +kernel
theorem dX7_begin_35 : decode cX7_begin 35 = .ok (.iastore, 1) := by decide +kernel
theorem dX7_begin_36 : decode cX7_begin 36 = .ok (.aload_n 0, 1) := by decide +kernel
theorem dX7_begin_37 : decode cX7_begin 37 = .ok (.getfield 55, 3) := by decide +kernel
theorem dX7_begin_40 : decode cX7_begin 40 = .ok (.iload_n 1, 1) := by decide +kernel
theorem dX7_begin_41 : decode cX7_begin 41 = .ok (.iaload, 1) := by decide +kernel
theorem dX7_begin_42 : decode cX7_begin 42 = .ok (.ireturn, 1) := by decide +kernel
theorem dX7_end_0 : decode cX7_end 0 = .ok (.aload_n 0, 1) := by decide +kernel
theorem dX7_end_1 : decode cX7_end 1 = .ok (.iload_n 1, 1) := by decide +kernel
theorem dX7_end_2 : decode cX7_end 2 = .ok (.invokevirtual 113, 3) := by decide +kernel
theorem dX7_end_5 : decode cX7_end 5 = .ok (.ifCond .ne 5, 3) := by decide +kernel
theorem dX7_end_8 : decode cX7_end 8 = .ok (.iconst (-1), 1) := by decide +kernel
theorem dX7_end_9 : decode cX7_end 9 = .ok (.ireturn, 1) := by decide +kernel
theorem dX7_end_10 : decode cX7_end 10 = .ok (.aload_n 0, 1) := by decide +kernel
theorem dX7_end_11 : decode cX7_end 11 = .ok (.getfield 49, 3) := by decide +kernel
theorem dX7_end_14 : decode cX7_end 14 = .ok (.iload_n 1, 1) := by decide +kernel
theorem dX7_end_15 : decode cX7_end 15 = .ok (.baload, 1) := by decide +kernel
theorem dX7_end_16 : decode cX7_end 16 = .ok (.ifCond .ne 6, 3) := by decide +kernel
theorem dX7_end_19 : decode cX7_end 19 = .ok (.bipush (-3), 2) := by decide +kernel
theorem dX7_end_21 : decode cX7_end 21 = .ok (.ireturn, 1) := by decide +kernel
theorem dX7_end_22 : decode cX7_end 22 = .ok (.aload_n 0, 1) := by decide +kernel
theorem dX7_end_23 : decode cX7_end 23 = .ok (.getfield 52, 3) := by decide +kernel
theorem dX7_end_26 : decode cX7_end 26 = .ok (.iload_n 1, 1) := by decide +kernel
theorem dX7_end_27 : decode cX7_end 27 = .ok (.iaload, 1) := by decide +kernel
theorem dX7_end_28 : decode cX7_end 28 = .ok (.istore_n 3, 1) := by decide +kernel
theorem dX7_end_29 : decode cX7_end 29 = .ok (.iload_n 2, 1) := by decide +kernel
theorem dX7_end_30 : decode cX7_end 30 = .ok (.ifCond .ne 20, 3) := by decide +kernel
theorem dX7_end_33 : decode cX7_end 33 = .ok (.aload_n 0, 1) := by decide +kernel
theorem dX7_end_34 : decode cX7_end 34 = .ok (.getfield 52, 3) := by decide +kernel
theorem dX7_end_37 : decode cX7_end 37 = .ok (.iload_n 1, 1) := by decide +kernel
theorem dX7_end_38 : decode cX7_end 38 = .ok (.iaload, 1) := by decide +kernel
theorem dX7_end_39 : decode cX7_end 39 = .ok (.ifCond .le 11, 3) := by decide +kernel
theorem dX7_end_42 : decode cX7_end 42 = .ok (.aload_n 0, 1) := by decide +kernel
theorem dX7_end_43 : decode cX7_end 43 = .ok (.iload_n 1, 1) := by decide +kernel
theorem dX7_end_44 : decode cX7_end 44 = .ok (.invokevirtual 152, 3) := by decide +kernel
theorem dX7_end_47 : decode cX7_end 47 = .ok (.goto (-18), 3) := by decide +kernel
theorem dX7_end_50 : decode cX7_end 50 = .ok (.aload_n 0, 1) := by decide +kernel
theorem dX7_end_51 : decode cX7_end 51 = .ok (.getfield 49, 3) := by decide +kernel
theorem dX7_end_54 : decode cX7_end 54 = .ok (.iload_n 1, 1) := by decide +kernel
theorem dX7_end_55 : decode cX7_end 55 = .ok (.iconst 0, 1) := by decide +kernel
theorem dX7_end_56 : decode cX7_end 56 = .ok (.bastore, 1) := by decide +kernel
theorem dX7_end_57 : decode cX7_end 57 = .ok (.aload_n 0, 1) := by decide +kernel
theorem dX7_end_58 : decode cX7_end 58 = .ok (.getfield 52, 3) := by decide +kernel
theorem dX7_end_61 : decode cX7_end 61 = .ok (.iload_n 1, 1) := by decide +kernel
theorem dX7_end_62 : decode cX7_end 62 = .ok (.iconst 0, 1) := by decide +kernel
theorem dX7_end_63 : decode cX7_end 63 = .ok (.iastore, 1) := by decide +kernel
theorem dX7_end_64 : decode cX7_end 64 = .ok (.iload_n 3, 1) := by decide +kernel
theorem dX7_end_65 : decode cX7_end 65 = .ok (.ireturn, 1) := by decide +kernel
theorem dX7_member_0 : decode cX7_member 0 = .ok (.aload_n 0, 1) := by decide +kernel
theorem dX7_member_1 : decode cX7_member 1 = .ok (.iload_n 1, 1) := by decide +kernel
theorem dX7_member_2 : decode cX7_member 2 = .ok (.invokevirtual 113, 3) := by decide +kernel
theorem dX7_member_5 : decode cX7_member 5 = .ok (.ifCond .eq 41, 3) := by decide +kernel
theorem dX7_member_8 : decode cX7_member 8 = .ok (.iload_n 2, 1) := by decide +kernel
theorem dX7_member_9 : decode cX7_member 9 = .ok (.iconst 0, 1) := by decide +kernel
theorem dX7_member_10 : decode cX7_member 10 = .ok (.aload_n 0, 1) := by decide +kernel
theorem dX7_member_11 : decode cX7_member 11 = .ok (.getfield 89, 3) := by decide +kernel
theorem dX7_member_14 : decode cX7_member 14 = .ok (.iconst 1, 1) := by decide +kernel
theorem dX7_member_15 : decode cX7_member 15 = .ok (.isub, 1) := by decide +kernel
theorem dX7_member_16 : decode cX7_member 16 = .ok (.invokestatic 85, 3) := by decide +kernel
theorem dX7_member_19 : decode cX7_member 19 = .ok (.ifCond .eq 27, 3) := by decide +kernel
theorem dX7_member_22 : decode cX7_member 22 = .ok (.iload_n 3, 1) := by decide +kernel
theorem dX7_member_23 : decode cX7_member 23 = .ok (.iconst 0, 1) := by decide +kernel
theorem dX7_member_24 : decode cX7_member 24 = .ok (.iconst 3, 1) := by decide +kernel
theorem dX7_member_25 : decode cX7_member 25 = .ok (.invokestatic 85, 3) := by decide +kernel
theorem dX7_member_28 : decode cX7_member 28 = .ok (.ifCond .eq 18, 3) := by decide +kernel
theorem dX7_member_31 : decode cX7_member 31 = .ok (.aload_n 0, 1) := by decide +kernel
theorem dX7_member_32 : decode cX7_member 32 = .ok (.getfield 29, 3) := by decide +kernel
theorem dX7_member_35 : decode cX7_member 35 = .ok (.aload_n 0, 1) := by decide +kernel
theorem dX7_member_36 : decode cX7_member 36 = .ok (.iload_n 1, 1) := by decide +kernel
theorem dX7_member_37 : decode cX7_member 37 = .ok (.iload_n 2, 1) := by decide +kernel
theorem dX7_member_38 : decode cX7_member 38 = .ok (.iload_n 3, 1) := by decide +kernel
theorem dX7_member_39 : decode cX7_member 39 = .ok (.invokevirtual 92, 3) := by decide +kernel
theorem dX7_member_42 : decode cX7_member 42 = .ok (.iaload, 1) := by decide +kernel
theorem dX7_member_43 : decode cX7_member 43 = .ok (.goto 5, 3) := by decide +kernel
theorem dX7_member_46 : decode cX7_member 46 = .ok (.ldc 111, 2) := by decide +kernel
theorem dX7_member_48 : decode cX7_member 48 = .ok (.ireturn, 1) := by decide +kernel
theorem dX7_score_0 : decode cX7_score 0 = .ok (.aload_n 0, 1) := by decide +kernel
theorem dX7_score_1 : decode cX7_score 1 = .ok (.iload_n 1, 1) := by decide +kernel
theorem dX7_score_2 : decode cX7_score 2 = .ok (.invokevirtual 113, 3) := by decide +kernel
theorem dX7_score_5 : decode cX7_score 5 = .ok (.ifCond .eq 21, 3) := by decide +kernel
theorem dX7_score_8 : decode cX7_score 8 = .ok (.iload_n 2, 1) := by decide +kernel
theorem dX7_score_9 : decode cX7_score 9 = .ok (.iconst 0, 1) := by decide +kernel
theorem dX7_score_10 : decode cX7_score 10 = .ok (.iconst 2, 1) := by decide +kernel
theorem dX7_score_11 : decode cX7_score 11 = .ok (.invokestatic 85, 3) := by decide +kernel
theorem dX7_score_14 : decode cX7_score 14 = .ok (.ifCond .eq 12, 3) := by decide +kernel
theorem dX7_score_17 : decode cX7_score 17 = .ok (.aload_n 0, 1) := by decide +kernel
theorem dX7_score_18 : decode cX7_score 18 = .ok (.iload_n 1, 1) := by decide +kernel
theorem dX7_score_19 : decode cX7_score 19 = .ok (.iload_n 2, 1) := by decide +kernel
theorem dX7_score_20 : decode cX7_score 20 = .ok (.invokevirtual 149, 3) := by decide +kernel
theorem dX7_score_23 : decode cX7_score 23 = .ok (.goto 6, 3) := by decide +kernel
theorem dX7_score_26 : decode cX7_score 26 = .ok (.ldc2_w 147, 3) := by decide +kernel
theorem dX7_score_29 : decode cX7_score 29 = .ok (.lreturn, 1) := by decide +kernel
theorem dX7_worth_0 : decode cX7_worth 0 = .ok (.aload_n 0, 1) := by decide +kernel
theorem dX7_worth_1 : decode cX7_worth 1 = .ok (.iload_n 1, 1) := by decide +kernel
theorem dX7_worth_2 : decode cX7_worth 2 = .ok (.invokevirtual 113, 3) := by decide +kernel
theorem dX7_worth_5 : decode cX7_worth 5 = .ok (.ifCond .eq 20, 3) := by decide +kernel
theorem dX7_worth_8 : decode cX7_worth 8 = .ok (.aload_n 0, 1) := by decide +kernel
theorem dX7_worth_9 : decode cX7_worth 9 = .ok (.iload_n 2, 1) := by decide +kernel
theorem dX7_worth_10 : decode cX7_worth 10 = .ok (.invokevirtual 117, 3) := by decide +kernel
theorem dX7_worth_13 : decode cX7_worth 13 = .ok (.ifCond .eq 12, 3) := by decide +kernel
theorem dX7_worth_16 : decode cX7_worth 16 = .ok (.iload_n 3, 1) := by decide +kernel
theorem dX7_worth_17 : decode cX7_worth 17 = .ok (.iconst 0, 1) := by decide +kernel
theorem dX7_worth_18 : decode cX7_worth 18 = .ok (.iconst 1, 1) := by decide +kernel
theorem dX7_worth_19 : decode cX7_worth 19 = .ok (.invokestatic 85, 3) := by decide +kernel
theorem dX7_worth_22 : decode cX7_worth 22 = .ok (.ifCond .ne 7, 3) := by decide +kernel
theorem dX7_worth_25 : decode cX7_worth 25 = .ok (.ldc2_w 147, 3) := by decide +kernel
theorem dX7_worth_28 : decode cX7_worth 28 = .ok (.lreturn, 1) := by decide +kernel
theorem dX7_worth_29 : decode cX7_worth 29 = .ok (.iload_n 3, 1) := by decide +kernel
theorem dX7_worth_30 : decode cX7_worth 30 = .ok (.ifCond .ne 17, 3) := by decide +kernel
theorem dX7_worth_33 : decode cX7_worth 33 = .ok (.aload_n 0, 1) := by decide +kernel
theorem dX7_worth_34 : decode cX7_worth 34 = .ok (.getfield 32, 3) := by decide +kernel
theorem dX7_worth_37 : decode cX7_worth 37 = .ok (.bipush 12, 2) := by decide +kernel
theorem dX7_worth_39 : decode cX7_worth 39 = .ok (.iload_n 1, 1) := by decide +kernel
theorem dX7_worth_40 : decode cX7_worth 40 = .ok (.imul, 1) := by decide +kernel
theorem dX7_worth_41 : decode cX7_worth 41 = .ok (.iload_n 2, 1) := by decide +kernel
theorem dX7_worth_42 : decode cX7_worth 42 = .ok (.iadd, 1) := by decide +kernel
theorem dX7_worth_43 : decode cX7_worth 43 = .ok (.laload, 1) := by decide +kernel
theorem dX7_worth_44 : decode cX7_worth 44 = .ok (.goto 9, 3) := by decide +kernel
theorem dX7_worth_47 : decode cX7_worth 47 = .ok (.aload_n 0, 1) := by decide +kernel
theorem dX7_worth_48 : decode cX7_worth 48 = .ok (.iload_n 1, 1) := by decide +kernel
theorem dX7_worth_49 : decode cX7_worth 49 = .ok (.iload_n 2, 1) := by decide +kernel
theorem dX7_worth_50 : decode cX7_worth 50 = .ok (.invokevirtual 99, 3) := by decide +kernel
theorem dX7_worth_53 : decode cX7_worth 53 = .ok (.lreturn, 1) := by decide +kernel
theorem dX7_check_0 : decode cX7_check 0 = .ok (.aload_n 0, 1) := by decide +kernel
theorem dX7_check_1 : decode cX7_check 1 = .ok (.iload_n 1, 1) := by decide +kernel
theorem dX7_check_2 : decode cX7_check 2 = .ok (.invokevirtual 113, 3) := by decide +kernel
theorem dX7_check_5 : decode cX7_check 5 = .ok (.ifCond .eq 11, 3) := by decide +kernel
theorem dX7_check_8 : decode cX7_check 8 = .ok (.aload_n 0, 1) := by decide +kernel
theorem dX7_check_9 : decode cX7_check 9 = .ok (.iload_n 1, 1) := by decide +kernel
theorem dX7_check_10 : decode cX7_check 10 = .ok (.invokevirtual 141, 3) := by decide +kernel
theorem dX7_check_13 : decode cX7_check 13 = .ok (.goto 4, 3) := by decide +kernel
theorem dX7_check_16 : decode cX7_check 16 = .ok (.iconst (-1), 1) := by decide +kernel
theorem dX7_check_17 : decode cX7_check 17 = .ok (.ireturn, 1) := by decide +kernel
theorem dX7_every_0 : decode cX7_every 0 = .ok (.iload_n 1, 1) := by decide +kernel
theorem dX7_every_1 : decode cX7_every 1 = .ok (.iconst 0, 1) := by decide +kernel
theorem dX7_every_2 : decode cX7_every 2 = .ok (.bipush 100, 2) := by decide +kernel
theorem dX7_every_4 : decode cX7_every 4 = .ok (.invokestatic 85, 3) := by decide +kernel
theorem dX7_every_7 : decode cX7_every 7 = .ok (.ifCond .ne 5, 3) := by decide +kernel
theorem dX7_every_10 : decode cX7_every 10 = .ok (.iconst (-1), 1) := by decide +kernel
theorem dX7_every_11 : decode cX7_every 11 = .ok (.ireturn, 1) := by decide +kernel
theorem dX7_every_12 : decode cX7_every 12 = .ok (.aload_n 0, 1) := by decide +kernel
theorem dX7_every_13 : decode cX7_every 13 = .ok (.getfield 138, 3) := by decide +kernel
theorem dX7_every_16 : decode cX7_every 16 = .ok (.istore_n 2, 1) := by decide +kernel
theorem dX7_every_17 : decode cX7_every 17 = .ok (.aload_n 0, 1) := by decide +kernel
theorem dX7_every_18 : decode cX7_every 18 = .ok (.iload_n 1, 1) := by decide +kernel
theorem dX7_every_19 : decode cX7_every 19 = .ok (.putfield 138, 3) := by decide +kernel
theorem dX7_every_22 : decode cX7_every 22 = .ok (.iload_n 2, 1) := by decide +kernel
theorem dX7_every_23 : decode cX7_every 23 = .ok (.ireturn, 1) := by decide +kernel
theorem dX7_mend_0 : decode cX7_mend 0 = .ok (.aload_n 0, 1) := by decide +kernel
theorem dX7_mend_1 : decode cX7_mend 1 = .ok (.iload_n 1, 1) := by decide +kernel
theorem dX7_mend_2 : decode cX7_mend 2 = .ok (.invokevirtual 113, 3) := by decide +kernel
theorem dX7_mend_5 : decode cX7_mend 5 = .ok (.ifCond .eq 11, 3) := by decide +kernel
theorem dX7_mend_8 : decode cX7_mend 8 = .ok (.aload_n 0, 1) := by decide +kernel
theorem dX7_mend_9 : decode cX7_mend 9 = .ok (.iload_n 2, 1) := by decide +kernel
theorem dX7_mend_10 : decode cX7_mend 10 = .ok (.invokevirtual 117, 3) := by decide +kernel
theorem dX7_mend_13 : decode cX7_mend 13 = .ok (.ifCond .ne 5, 3) := by decide +kernel
theorem dX7_mend_16 : decode cX7_mend 16 = .ok (.iconst (-1), 1) := by decide +kernel
theorem dX7_mend_17 : decode cX7_mend 17 = .ok (.ireturn, 1) := by decide +kernel
theorem dX7_mend_18 : decode cX7_mend 18 = .ok (.aload_n 0, 1) := by decide +kernel
theorem dX7_mend_19 : decode cX7_mend 19 = .ok (.iload_n 1, 1) := by decide +kernel
theorem dX7_mend_20 : decode cX7_mend 20 = .ok (.iload_n 2, 1) := by decide +kernel
theorem dX7_mend_21 : decode cX7_mend 21 = .ok (.invokevirtual 99, 3) := by decide +kernel
theorem dX7_mend_24 : decode cX7_mend 24 = .ok (.lstore_n 3, 1) := by decide +kernel
theorem dX7_mend_25 : decode cX7_mend 25 = .ok (.aload_n 0, 1) := by decide +kernel
theorem dX7_mend_26 : decode cX7_mend 26 = .ok (.getfield 32, 3) := by decide +kernel
theorem dX7_mend_29 : decode cX7_mend 29 = .ok (.bipush 12, 2) := by decide +kernel
theorem dX7_mend_31 : decode cX7_mend 31 = .ok (.iload_n 1, 1) := by decide +kernel
theorem dX7_mend_32 : decode cX7_mend 32 = .ok (.imul, 1) := by decide +kernel
theorem dX7_mend_33 : decode cX7_mend 33 = .ok (.iload_n 2, 1) := by decide +kernel
theorem dX7_mend_34 : decode cX7_mend 34 = .ok (.iadd, 1) := by decide +kernel
theorem dX7_mend_35 : decode cX7_mend 35 = .ok (.laload, 1) := by decide +kernel
theorem dX7_mend_36 : decode cX7_mend 36 = .ok (.lload_n 3, 1) := by decide +kernel
theorem dX7_mend_37 : decode cX7_mend 37 = .ok (.lcmp, 1) := by decide +kernel
theorem dX7_mend_38 : decode cX7_mend 38 = .ok (.ifCond .eq 7, 3) := by decide +kernel
theorem dX7_mend_41 : decode cX7_mend 41 = .ok (.iconst 1, 1) := by decide +kernel
theorem dX7_mend_42 : decode cX7_mend 42 = .ok (.goto 4, 3) := by decide +kernel
theorem dX7_mend_45 : decode cX7_mend 45 = .ok (.iconst 0, 1) := by decide +kernel
theorem dX7_mend_46 : decode cX7_mend 46 = .ok (.istore 5, 2) := by decide +kernel
theorem dX7_mend_48 : decode cX7_mend 48 = .ok (.aload_n 0, 1) := by decide +kernel
theorem dX7_mend_49 : decode cX7_mend 49 = .ok (.getfield 32, 3) := by decide +kernel
theorem dX7_mend_52 : decode cX7_mend 52 = .ok (.bipush 12, 2) := by decide +kernel
theorem dX7_mend_54 : decode cX7_mend 54 = .ok (.iload_n 1, 1) := by decide +kernel
theorem dX7_mend_55 : decode cX7_mend 55 = .ok (.imul, 1) := by decide +kernel
theorem dX7_mend_56 : decode cX7_mend 56 = .ok (.iload_n 2, 1) := by decide +kernel
theorem dX7_mend_57 : decode cX7_mend 57 = .ok (.iadd, 1) := by decide +kernel
theorem dX7_mend_58 : decode cX7_mend 58 = .ok (.lload_n 3, 1) := by decide +kernel
theorem dX7_mend_59 : decode cX7_mend 59 = .ok (.lastore, 1) := by decide +kernel
theorem dX7_mend_60 : decode cX7_mend 60 = .ok (.iload 5, 2) := by decide +kernel
theorem dX7_mend_62 : decode cX7_mend 62 = .ok (.ifCond .eq 7, 3) := by decide +kernel
theorem dX7_mend_65 : decode cX7_mend 65 = .ok (.iconst 1, 1) := by decide +kernel
theorem dX7_mend_66 : decode cX7_mend 66 = .ok (.goto 4, 3) := by decide +kernel
theorem dX7_mend_69 : decode cX7_mend 69 = .ok (.iconst 0, 1) := by decide +kernel
theorem dX7_mend_70 : decode cX7_mend 70 = .ok (.ireturn, 1) := by decide +kernel
theorem dX7_keep_0 : decode cX7_keep 0 = .ok (.aload_n 0, 1) := by decide +kernel
theorem dX7_keep_1 : decode cX7_keep 1 = .ok (.iload_n 1, 1) := by decide +kernel
theorem dX7_keep_2 : decode cX7_keep 2 = .ok (.invokevirtual 113, 3) := by decide +kernel
theorem dX7_keep_5 : decode cX7_keep 5 = .ok (.ifCond .ne 5, 3) := by decide +kernel
theorem dX7_keep_8 : decode cX7_keep 8 = .ok (.iconst (-1), 1) := by decide +kernel
theorem dX7_keep_9 : decode cX7_keep 9 = .ok (.ireturn, 1) := by decide +kernel
theorem dX7_keep_10 : decode cX7_keep 10 = .ok (.aload_n 0, 1) := by decide +kernel
theorem dX7_keep_11 : decode cX7_keep 11 = .ok (.getfield 155, 3) := by decide +kernel
theorem dX7_keep_14 : decode cX7_keep 14 = .ok (.bipush 20, 2) := by decide +kernel
theorem dX7_keep_16 : decode cX7_keep 16 = .ok (.if_icmp .ne 6, 3) := by decide +kernel
theorem dX7_keep_19 : decode cX7_keep 19 = .ok (.bipush (-4), 2) := by decide +kernel
theorem dX7_keep_21 : decode cX7_keep 21 = .ok (.ireturn, 1) := by decide +kernel
theorem dX7_keep_22 : decode cX7_keep 22 = .ok (.iconst 0, 1) := by decide +kernel
theorem dX7_keep_23 : decode cX7_keep 23 = .ok (.istore_n 2, 1) := by decide +kernel
theorem dX7_keep_24 : decode cX7_keep 24 = .ok (.iload_n 2, 1) := by decide +kernel
theorem dX7_keep_25 : decode cX7_keep 25 = .ok (.iconst 3, 1) := by decide +kernel
theorem dX7_keep_26 : decode cX7_keep 26 = .ok (.if_icmp .ge 28, 3) := by decide +kernel
theorem dX7_keep_29 : decode cX7_keep 29 = .ok (.aload_n 0, 1) := by decide +kernel
theorem dX7_keep_30 : decode cX7_keep 30 = .ok (.getfield 70, 3) := by decide +kernel
theorem dX7_keep_33 : decode cX7_keep 33 = .ok (.iconst 3, 1) := by decide +kernel
theorem dX7_keep_34 : decode cX7_keep 34 = .ok (.aload_n 0, 1) := by decide +kernel
theorem dX7_keep_35 : decode cX7_keep 35 = .ok (.getfield 155, 3) := by decide +kernel
theorem dX7_keep_38 : decode cX7_keep 38 = .ok (.imul, 1) := by decide +kernel
theorem dX7_keep_39 : decode cX7_keep 39 = .ok (.iload_n 2, 1) := by decide +kernel
theorem dX7_keep_40 : decode cX7_keep 40 = .ok (.iadd, 1) := by decide +kernel
theorem dX7_keep_41 : decode cX7_keep 41 = .ok (.aload_n 0, 1) := by decide +kernel
theorem dX7_keep_42 : decode cX7_keep 42 = .ok (.iload_n 1, 1) := by decide +kernel
theorem dX7_keep_43 : decode cX7_keep 43 = .ok (.iload_n 2, 1) := by decide +kernel
theorem dX7_keep_44 : decode cX7_keep 44 = .ok (.invokevirtual 149, 3) := by decide +kernel
theorem dX7_keep_47 : decode cX7_keep 47 = .ok (.lastore, 1) := by decide +kernel
theorem dX7_keep_48 : decode cX7_keep 48 = .ok (.iinc 2 1, 3) := by decide +kernel
theorem dX7_keep_51 : decode cX7_keep 51 = .ok (.goto (-27), 3) := by decide +kernel
theorem dX7_keep_54 : decode cX7_keep 54 = .ok (.iconst 0, 1) := by decide +kernel
theorem dX7_keep_55 : decode cX7_keep 55 = .ok (.istore_n 2, 1) := by decide +kernel
theorem dX7_keep_56 : decode cX7_keep 56 = .ok (.iload_n 2, 1) := by decide +kernel
theorem dX7_keep_57 : decode cX7_keep 57 = .ok (.sipush 160, 3) := by decide +kernel
theorem dX7_keep_60 : decode cX7_keep 60 = .ok (.if_icmp .ge 36, 3) := by decide +kernel
theorem dX7_keep_63 : decode cX7_keep 63 = .ok (.aload_n 0, 1) := by decide +kernel
theorem dX7_keep_64 : decode cX7_keep 64 = .ok (.getfield 73, 3) := by decide +kernel
theorem dX7_keep_67 : decode cX7_keep 67 = .ok (.sipush 160, 3) := by decide +kernel
theorem dX7_keep_70 : decode cX7_keep 70 = .ok (.aload_n 0, 1) := by decide +kernel
theorem dX7_keep_71 : decode cX7_keep 71 = .ok (.getfield 155, 3) := by decide +kernel
theorem dX7_keep_74 : decode cX7_keep 74 = .ok (.imul, 1) := by decide +kernel
theorem dX7_keep_75 : decode cX7_keep 75 = .ok (.iload_n 2, 1) := by decide +kernel
theorem dX7_keep_76 : decode cX7_keep 76 = .ok (.iadd, 1) := by decide +kernel
theorem dX7_keep_77 : decode cX7_keep 77 = .ok (.aload_n 0, 1) := by decide +kernel
theorem dX7_keep_78 : decode cX7_keep 78 = .ok (.getfield 29, 3) := by decide +kernel
theorem dX7_keep_81 : decode cX7_keep 81 = .ok (.sipush 160, 3) := by decide +kernel
theorem dX7_keep_84 : decode cX7_keep 84 = .ok (.iload_n 1, 1) := by decide +kernel
theorem dX7_keep_85 : decode cX7_keep 85 = .ok (.imul, 1) := by decide +kernel
theorem dX7_keep_86 : decode cX7_keep 86 = .ok (.iload_n 2, 1) := by decide +kernel
theorem dX7_keep_87 : decode cX7_keep 87 = .ok (.iadd, 1) := by decide +kernel
theorem dX7_keep_88 : decode cX7_keep 88 = .ok (.iaload, 1) := by decide +kernel
theorem dX7_keep_89 : decode cX7_keep 89 = .ok (.iastore, 1) := by decide +kernel
theorem dX7_keep_90 : decode cX7_keep 90 = .ok (.iinc 2 1, 3) := by decide +kernel
theorem dX7_keep_93 : decode cX7_keep 93 = .ok (.goto (-37), 3) := by decide +kernel
theorem dX7_keep_96 : decode cX7_keep 96 = .ok (.aload_n 0, 1) := by decide +kernel
theorem dX7_keep_97 : decode cX7_keep 97 = .ok (.getfield 76, 3) := by decide +kernel
theorem dX7_keep_100 : decode cX7_keep 100 = .ok (.aload_n 0, 1) := by decide +kernel
theorem dX7_keep_101 : decode cX7_keep 101 = .ok (.getfield 155, 3) := by decide +kernel
theorem dX7_keep_104 : decode cX7_keep 104 = .ok (.aload_n 0, 1) := by decide +kernel
theorem dX7_keep_105 : decode cX7_keep 105 = .ok (.getfield 89, 3) := by decide +kernel
theorem dX7_keep_108 : decode cX7_keep 108 = .ok (.iastore, 1) := by decide +kernel
theorem dX7_keep_109 : decode cX7_keep 109 = .ok (.aload_n 0, 1) := by decide +kernel
theorem dX7_keep_110 : decode cX7_keep 110 = .ok (.dup, 1) := by decide +kernel
theorem dX7_keep_111 : decode cX7_keep 111 = .ok (.getfield 155, 3) := by decide +kernel
theorem dX7_keep_114 : decode cX7_keep 114 = .ok (.iconst 1, 1) := by decide +kernel
theorem dX7_keep_115 : decode cX7_keep 115 = .ok (.iadd, 1) := by decide +kernel
theorem dX7_keep_116 : decode cX7_keep 116 = .ok (.putfield 155, 3) := by decide +kernel
theorem dX7_keep_119 : decode cX7_keep 119 = .ok (.aload_n 0, 1) := by decide +kernel
theorem dX7_keep_120 : decode cX7_keep 120 = .ok (.getfield 155, 3) := by decide +kernel
theorem dX7_keep_123 : decode cX7_keep 123 = .ok (.iconst 1, 1) := by decide +kernel
theorem dX7_keep_124 : decode cX7_keep 124 = .ok (.isub, 1) := by decide +kernel
theorem dX7_keep_125 : decode cX7_keep 125 = .ok (.ireturn, 1) := by decide +kernel
theorem dX7_kept_0 : decode cX7_kept 0 = .ok (.iload_n 1, 1) := by decide +kernel
theorem dX7_kept_1 : decode cX7_kept 1 = .ok (.iconst 0, 1) := by decide +kernel
theorem dX7_kept_2 : decode cX7_kept 2 = .ok (.aload_n 0, 1) := by decide +kernel
theorem dX7_kept_3 : decode cX7_kept 3 = .ok (.getfield 155, 3) := by decide +kernel
theorem dX7_kept_6 : decode cX7_kept 6 = .ok (.iconst 1, 1) := by decide +kernel
theorem dX7_kept_7 : decode cX7_kept 7 = .ok (.isub, 1) := by decide +kernel
theorem dX7_kept_8 : decode cX7_kept 8 = .ok (.invokestatic 85, 3) := by decide +kernel
theorem dX7_kept_11 : decode cX7_kept 11 = .ok (.ifCond .eq 25, 3) := by decide +kernel
theorem dX7_kept_14 : decode cX7_kept 14 = .ok (.iload_n 2, 1) := by decide +kernel
theorem dX7_kept_15 : decode cX7_kept 15 = .ok (.iconst 0, 1) := by decide +kernel
theorem dX7_kept_16 : decode cX7_kept 16 = .ok (.iconst 2, 1) := by decide +kernel
theorem dX7_kept_17 : decode cX7_kept 17 = .ok (.invokestatic 85, 3) := by decide +kernel
theorem dX7_kept_20 : decode cX7_kept 20 = .ok (.ifCond .eq 16, 3) := by decide +kernel
theorem dX7_kept_23 : decode cX7_kept 23 = .ok (.aload_n 0, 1) := by decide +kernel
theorem dX7_kept_24 : decode cX7_kept 24 = .ok (.getfield 70, 3) := by decide +kernel
theorem dX7_kept_27 : decode cX7_kept 27 = .ok (.iconst 3, 1) := by decide +kernel
theorem dX7_kept_28 : decode cX7_kept 28 = .ok (.iload_n 1, 1) := by decide +kernel
theorem dX7_kept_29 : decode cX7_kept 29 = .ok (.imul, 1) := by decide +kernel
theorem dX7_kept_30 : decode cX7_kept 30 = .ok (.iload_n 2, 1) := by decide +kernel
theorem dX7_kept_31 : decode cX7_kept 31 = .ok (.iadd, 1) := by decide +kernel
theorem dX7_kept_32 : decode cX7_kept 32 = .ok (.laload, 1) := by decide +kernel
theorem dX7_kept_33 : decode cX7_kept 33 = .ok (.goto 6, 3) := by decide +kernel
theorem dX7_kept_36 : decode cX7_kept 36 = .ok (.ldc2_w 147, 3) := by decide +kernel
theorem dX7_kept_39 : decode cX7_kept 39 = .ok (.lreturn, 1) := by decide +kernel
theorem dX7_then_0 : decode cX7_then 0 = .ok (.iload_n 1, 1) := by decide +kernel
theorem dX7_then_1 : decode cX7_then 1 = .ok (.iconst 0, 1) := by decide +kernel
theorem dX7_then_2 : decode cX7_then 2 = .ok (.aload_n 0, 1) := by decide +kernel
theorem dX7_then_3 : decode cX7_then 3 = .ok (.getfield 155, 3) := by decide +kernel
theorem dX7_then_6 : decode cX7_then 6 = .ok (.iconst 1, 1) := by decide +kernel
theorem dX7_then_7 : decode cX7_then 7 = .ok (.isub, 1) := by decide +kernel
theorem dX7_then_8 : decode cX7_then 8 = .ok (.invokestatic 85, 3) := by decide +kernel
theorem dX7_then_11 : decode cX7_then 11 = .ok (.ifCond .eq 47, 3) := by decide +kernel
theorem dX7_then_14 : decode cX7_then 14 = .ok (.iload_n 2, 1) := by decide +kernel
theorem dX7_then_15 : decode cX7_then 15 = .ok (.iconst 0, 1) := by decide +kernel
theorem dX7_then_16 : decode cX7_then 16 = .ok (.aload_n 0, 1) := by decide +kernel
theorem dX7_then_17 : decode cX7_then 17 = .ok (.getfield 76, 3) := by decide +kernel
theorem dX7_then_20 : decode cX7_then 20 = .ok (.iload_n 1, 1) := by decide +kernel
theorem dX7_then_21 : decode cX7_then 21 = .ok (.iaload, 1) := by decide +kernel
theorem dX7_then_22 : decode cX7_then 22 = .ok (.iconst 1, 1) := by decide +kernel
theorem dX7_then_23 : decode cX7_then 23 = .ok (.isub, 1) := by decide +kernel
theorem dX7_then_24 : decode cX7_then 24 = .ok (.invokestatic 85, 3) := by decide +kernel
theorem dX7_then_27 : decode cX7_then 27 = .ok (.ifCond .eq 31, 3) := by decide +kernel
theorem dX7_then_30 : decode cX7_then 30 = .ok (.iload_n 3, 1) := by decide +kernel
theorem dX7_then_31 : decode cX7_then 31 = .ok (.iconst 0, 1) := by decide +kernel
theorem dX7_then_32 : decode cX7_then 32 = .ok (.iconst 3, 1) := by decide +kernel
theorem dX7_then_33 : decode cX7_then 33 = .ok (.invokestatic 85, 3) := by decide +kernel
theorem dX7_then_36 : decode cX7_then 36 = .ok (.ifCond .eq 22, 3) := by decide +kernel
theorem dX7_then_39 : decode cX7_then 39 = .ok (.aload_n 0, 1) := by decide +kernel
theorem dX7_then_40 : decode cX7_then 40 = .ok (.getfield 73, 3) := by decide +kernel
theorem dX7_then_43 : decode cX7_then 43 = .ok (.sipush 160, 3) := by decide +kernel
theorem dX7_then_46 : decode cX7_then 46 = .ok (.iload_n 1, 1) := by decide +kernel
theorem dX7_then_47 : decode cX7_then 47 = .ok (.imul, 1) := by decide +kernel
