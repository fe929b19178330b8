theorem dX7_init_31 : decode cX7_init 31 = .ok (.newarray .int, 2) := by decide +kernel
theorem dX7_init_33 : decode cX7_init 33 = .ok (.putfield 19, 3) := by decide +kernel
theorem dX7_init_36 : decode cX7_init 36 = .ok (.aload_n 0, 1) := by decide +kernel
theorem dX7_init_37 : decode cX7_init 37 = .ok (.bipush 12, 2) := by decide +kernel
theorem dX7_init_39 : decode cX7_init 39 = .ok (.newarray .int, 2) := by decide +kernel
theorem dX7_init_41 : decode cX7_init 41 = .ok (.putfield 22, 3) := by decide +kernel
theorem dX7_init_44 : decode cX7_init 44 = .ok (.aload_n 0, 1) := by decide +kernel
theorem dX7_init_45 : decode cX7_init 45 = .ok (.iconst 1, 1) := by decide +kernel
theorem dX7_init_46 : decode cX7_init 46 = .ok (.putfield 25, 3) := by decide +kernel
theorem dX7_init_49 : decode cX7_init 49 = .ok (.aload_n 0, 1) := by decide +kernel
theorem dX7_init_50 : decode cX7_init 50 = .ok (.sipush 640, 3) := by decide +kernel
theorem dX7_init_53 : decode cX7_init 53 = .ok (.newarray .int, 2) := by decide +kernel
theorem dX7_init_55 : decode cX7_init 55 = .ok (.putfield 29, 3) := by decide +kernel
theorem dX7_init_58 : decode cX7_init 58 = .ok (.aload_n 0, 1) := by decide +kernel
theorem dX7_init_59 : decode cX7_init 59 = .ok (.bipush 48, 2) := by decide +kernel
theorem dX7_init_61 : decode cX7_init 61 = .ok (.newarray .long, 2) := by decide +kernel
theorem dX7_init_63 : decode cX7_init 63 = .ok (.putfield 32, 3) := by decide +kernel
theorem dX7_init_66 : decode cX7_init 66 = .ok (.aload_n 0, 1) := by decide +kernel
theorem dX7_init_67 : decode cX7_init 67 = .ok (.bipush 48, 2) := by decide +kernel
theorem dX7_init_69 : decode cX7_init 69 = .ok (.newarray .boolean, 2) := by decide +kernel
theorem dX7_init_71 : decode cX7_init 71 = .ok (.putfield 36, 3) := by decide +kernel
theorem dX7_init_74 : decode cX7_init 74 = .ok (.aload_n 0, 1) := by decide +kernel
theorem dX7_init_75 : decode cX7_init 75 = .ok (.iconst 4, 1) := by decide +kernel
theorem dX7_init_76 : decode cX7_init 76 = .ok (.newarray .int, 2) := by decide +kernel
theorem dX7_init_78 : decode cX7_init 78 = .ok (.putfield 40, 3) := by decide +kernel
theorem dX7_init_81 : decode cX7_init 81 = .ok (.aload_n 0, 1) := by decide +kernel
theorem dX7_init_82 : decode cX7_init 82 = .ok (.iconst 4, 1) := by decide +kernel
theorem dX7_init_83 : decode cX7_init 83 = .ok (.newarray .int, 2) := by decide +kernel
theorem dX7_init_85 : decode cX7_init 85 = .ok (.putfield 43, 3) := by decide +kernel
theorem dX7_init_88 : decode cX7_init 88 = .ok (.aload_n 0, 1) := by decide +kernel
theorem dX7_init_89 : decode cX7_init 89 = .ok (.iconst 4, 1) := by decide +kernel
theorem dX7_init_90 : decode cX7_init 90 = .ok (.newarray .int, 2) := by decide +kernel
theorem dX7_init_92 : decode cX7_init 92 = .ok (.putfield 46, 3) := by decide +kernel
theorem dX7_init_95 : decode cX7_init 95 = .ok (.aload_n 0, 1) := by decide +kernel
theorem dX7_init_96 : decode cX7_init 96 = .ok (.iconst 4, 1) := by decide +kernel
theorem dX7_init_97 : decode cX7_init 97 = .ok (.newarray .boolean, 2) := by decide +kernel
theorem dX7_init_99 : decode cX7_init 99 = .ok (.putfield 49, 3) := by decide +kernel
theorem dX7_init_102 : decode cX7_init 102 = .ok (.aload_n 0, 1) := by decide +kernel
theorem dX7_init_103 : decode cX7_init 103 = .ok (.iconst 4, 1) := by decide +kernel
theorem dX7_init_104 : decode cX7_init 104 = .ok (.newarray .int, 2) := by decide +kernel
theorem dX7_init_106 : decode cX7_init 106 = .ok (.putfield 52, 3) := by decide +kernel
theorem dX7_init_109 : decode cX7_init 109 = .ok (.aload_n 0, 1) := by decide +kernel
theorem dX7_init_110 : decode cX7_init 110 = .ok (.iconst 4, 1) := by decide +kernel
theorem dX7_init_111 : decode cX7_init 111 = .ok (.newarray .int, 2) := by decide +kernel
theorem dX7_init_113 : decode cX7_init 113 = .ok (.putfield 55, 3) := by decide +kernel
theorem dX7_init_116 : decode cX7_init 116 = .ok (.aload_n 0, 1) := by decide +kernel
theorem dX7_init_117 : decode cX7_init 117 = .ok (.sipush 240, 3) := by decide +kernel
theorem dX7_init_120 : decode cX7_init 120 = .ok (.newarray .int, 2) := by decide +kernel
theorem dX7_init_122 : decode cX7_init 122 = .ok (.putfield 58, 3) := by decide +kernel
theorem dX7_init_125 : decode cX7_init 125 = .ok (.aload_n 0, 1) := by decide +kernel
theorem dX7_init_126 : decode cX7_init 126 = .ok (.sipush 240, 3) := by decide +kernel
theorem dX7_init_129 : decode cX7_init 129 = .ok (.newarray .int, 2) := by decide +kernel
theorem dX7_init_131 : decode cX7_init 131 = .ok (.putfield 61, 3) := by decide +kernel
theorem dX7_init_134 : decode cX7_init 134 = .ok (.aload_n 0, 1) := by decide +kernel
theorem dX7_init_135 : decode cX7_init 135 = .ok (.sipush 240, 3) := by decide +kernel
theorem dX7_init_138 : decode cX7_init 138 = .ok (.newarray .int, 2) := by decide +kernel
theorem dX7_init_140 : decode cX7_init 140 = .ok (.putfield 64, 3) := by decide +kernel
theorem dX7_init_143 : decode cX7_init 143 = .ok (.aload_n 0, 1) := by decide +kernel
theorem dX7_init_144 : decode cX7_init 144 = .ok (.sipush 2880, 3) := by decide +kernel
theorem dX7_init_147 : decode cX7_init 147 = .ok (.newarray .long, 2) := by decide +kernel
theorem dX7_init_149 : decode cX7_init 149 = .ok (.putfield 67, 3) := by decide +kernel
theorem dX7_init_152 : decode cX7_init 152 = .ok (.aload_n 0, 1) := by decide +kernel
theorem dX7_init_153 : decode cX7_init 153 = .ok (.bipush 60, 2) := by decide +kernel
theorem dX7_init_155 : decode cX7_init 155 = .ok (.newarray .long, 2) := by decide +kernel
theorem dX7_init_157 : decode cX7_init 157 = .ok (.putfield 70, 3) := by decide +kernel
theorem dX7_init_160 : decode cX7_init 160 = .ok (.aload_n 0, 1) := by decide +kernel
theorem dX7_init_161 : decode cX7_init 161 = .ok (.sipush 3200, 3) := by decide +kernel
theorem dX7_init_164 : decode cX7_init 164 = .ok (.newarray .int, 2) := by decide +kernel
theorem dX7_init_166 : decode cX7_init 166 = .ok (.putfield 73, 3) := by decide +kernel
theorem dX7_init_169 : decode cX7_init 169 = .ok (.aload_n 0, 1) := by decide +kernel
theorem dX7_init_170 : decode cX7_init 170 = .ok (.bipush 20, 2) := by decide +kernel
theorem dX7_init_172 : decode cX7_init 172 = .ok (.newarray .int, 2) := by decide +kernel
theorem dX7_init_174 : decode cX7_init 174 = .ok (.putfield 76, 3) := by decide +kernel
theorem dX7_init_177 : decode cX7_init 177 = .ok (.aload_n 0, 1) := by decide +kernel
theorem dX7_init_178 : decode cX7_init 178 = .ok (.sipush 160, 3) := by decide +kernel
theorem dX7_init_181 : decode cX7_init 181 = .ok (.newarray .int, 2) := by decide +kernel
theorem dX7_init_183 : decode cX7_init 183 = .ok (.putfield 79, 3) := by decide +kernel
theorem dX7_init_186 : decode cX7_init 186 = .ok (.aload_n 0, 1) := by decide +kernel
theorem dX7_init_187 : decode cX7_init 187 = .ok (.bipush 12, 2) := by decide +kernel
theorem dX7_init_189 : decode cX7_init 189 = .ok (.newarray .long, 2) := by decide +kernel
theorem dX7_init_191 : decode cX7_init 191 = .ok (.putfield 82, 3) := by decide +kernel
theorem dX7_init_194 : decode cX7_init 194 = .ok (.iconst 0, 1) := by decide +kernel
theorem dX7_init_195 : decode cX7_init 195 = .ok (.istore_n 1, 1) := by decide +kernel
theorem dX7_init_196 : decode cX7_init 196 = .ok (.iload_n 1, 1) := by decide +kernel
theorem dX7_init_197 : decode cX7_init 197 = .ok (.iconst 4, 1) := by decide +kernel
theorem dX7_init_198 : decode cX7_init 198 = .ok (.if_icmp .ge 16, 3) := by decide +kernel
theorem dX7_init_201 : decode cX7_init 201 = .ok (.aload_n 0, 1) := by decide +kernel
theorem dX7_init_202 : decode cX7_init 202 = .ok (.getfield 46, 3) := by decide +kernel
theorem dX7_init_205 : decode cX7_init 205 = .ok (.iload_n 1, 1) := by decide +kernel
theorem dX7_init_206 : decode cX7_init 206 = .ok (.iconst (-1), 1) := by decide +kernel
theorem dX7_init_207 : decode cX7_init 207 = .ok (.iastore, 1) := by decide +kernel
theorem dX7_init_208 : decode cX7_init 208 = .ok (.iinc 1 1, 3) := by decide +kernel
theorem dX7_init_211 : decode cX7_init 211 = .ok (.goto (-15), 3) := by decide +kernel
theorem dX7_init_214 : decode cX7_init 214 = .ok (.return_, 1) := by decide +kernel
theorem dX7_in_0 : decode cX7_in 0 = .ok (.iload_n 0, 1) := by decide +kernel
theorem dX7_in_1 : decode cX7_in 1 = .ok (.iload_n 1, 1) := by decide +kernel
theorem dX7_in_2 : decode cX7_in 2 = .ok (.if_icmp .lt 12, 3) := by decide +kernel
theorem dX7_in_5 : decode cX7_in 5 = .ok (.iload_n 0, 1) := by decide +kernel
theorem dX7_in_6 : decode cX7_in 6 = .ok (.iload_n 2, 1) := by decide +kernel
theorem dX7_in_7 : decode cX7_in 7 = .ok (.if_icmp .gt 7, 3) := by decide +kernel
theorem dX7_in_10 : decode cX7_in 10 = .ok (.iconst 1, 1) := by decide +kernel
theorem dX7_in_11 : decode cX7_in 11 = .ok (.goto 4, 3) := by decide +kernel
theorem dX7_in_14 : decode cX7_in 14 = .ok (.iconst 0, 1) := by decide +kernel
theorem dX7_in_15 : decode cX7_in 15 = .ok (.ireturn, 1) := by decide +kernel
theorem dX7_isPlan_0 : decode cX7_isPlan 0 = .ok (.iload_n 1, 1) := by decide +kernel
theorem dX7_isPlan_1 : decode cX7_isPlan 1 = .ok (.iconst 0, 1) := by decide +kernel
theorem dX7_isPlan_2 : decode cX7_isPlan 2 = .ok (.aload_n 0, 1) := by decide +kernel
theorem dX7_isPlan_3 : decode cX7_isPlan 3 = .ok (.getfield 25, 3) := by decide +kernel
theorem dX7_isPlan_6 : decode cX7_isPlan 6 = .ok (.iconst 1, 1) := by decide +kernel
theorem dX7_isPlan_7 : decode cX7_isPlan 7 = .ok (.isub, 1) := by decide +kernel
theorem dX7_isPlan_8 : decode cX7_isPlan 8 = .ok (.invokestatic 85, 3) := by decide +kernel
theorem dX7_isPlan_11 : decode cX7_isPlan 11 = .ok (.ireturn, 1) := by decide +kernel
theorem dX7_at_0 : decode cX7_at 0 = .ok (.sipush 160, 3) := by decide +kernel
theorem dX7_at_3 : decode cX7_at 3 = .ok (.iload_n 1, 1) := by decide +kernel
theorem dX7_at_4 : decode cX7_at 4 = .ok (.imul, 1) := by decide +kernel
theorem dX7_at_5 : decode cX7_at 5 = .ok (.iconst 4, 1) := by decide +kernel
theorem dX7_at_6 : decode cX7_at 6 = .ok (.iload_n 2, 1) := by decide +kernel
theorem dX7_at_7 : decode cX7_at 7 = .ok (.imul, 1) := by decide +kernel
theorem dX7_at_8 : decode cX7_at 8 = .ok (.iadd, 1) := by decide +kernel
theorem dX7_at_9 : decode cX7_at 9 = .ok (.iload_n 3, 1) := by decide +kernel
theorem dX7_at_10 : decode cX7_at 10 = .ok (.iadd, 1) := by decide +kernel
theorem dX7_at_11 : decode cX7_at 11 = .ok (.ireturn, 1) := by decide +kernel
theorem dX7_findEnds_0 : decode cX7_findEnds 0 = .ok (.iconst 0, 1) := by decide +kernel
theorem dX7_findEnds_1 : decode cX7_findEnds 1 = .ok (.istore_n 2, 1) := by decide +kernel
theorem dX7_findEnds_2 : decode cX7_findEnds 2 = .ok (.iload_n 2, 1) := by decide +kernel
theorem dX7_findEnds_3 : decode cX7_findEnds 3 = .ok (.aload_n 0, 1) := by decide +kernel
theorem dX7_findEnds_4 : decode cX7_findEnds 4 = .ok (.getfield 89, 3) := by decide +kernel
theorem dX7_findEnds_7 : decode cX7_findEnds 7 = .ok (.if_icmp .ge 66, 3) := by decide +kernel
theorem dX7_findEnds_10 : decode cX7_findEnds 10 = .ok (.iconst 0, 1) := by decide +kernel
theorem dX7_findEnds_11 : decode cX7_findEnds 11 = .ok (.istore_n 3, 1) := by decide +kernel
theorem dX7_findEnds_12 : decode cX7_findEnds 12 = .ok (.iload_n 2, 1) := by decide +kernel
theorem dX7_findEnds_13 : decode cX7_findEnds 13 = .ok (.istore 4, 2) := by decide +kernel
theorem dX7_findEnds_15 : decode cX7_findEnds 15 = .ok (.iload 4, 2) := by decide +kernel
theorem dX7_findEnds_17 : decode cX7_findEnds 17 = .ok (.ifCond .lt 37, 3) := by decide +kernel
theorem dX7_findEnds_20 : decode cX7_findEnds 20 = .ok (.iload_n 3, 1) := by decide +kernel
theorem dX7_findEnds_21 : decode cX7_findEnds 21 = .ok (.aload_n 0, 1) := by decide +kernel
theorem dX7_findEnds_22 : decode cX7_findEnds 22 = .ok (.getfield 29, 3) := by decide +kernel
theorem dX7_findEnds_25 : decode cX7_findEnds 25 = .ok (.aload_n 0, 1) := by decide +kernel
theorem dX7_findEnds_26 : decode cX7_findEnds 26 = .ok (.iload_n 1, 1) := by decide +kernel
theorem dX7_findEnds_27 : decode cX7_findEnds 27 = .ok (.iload 4, 2) := by decide +kernel
theorem dX7_findEnds_29 : decode cX7_findEnds 29 = .ok (.iconst 0, 1) := by decide +kernel
theorem dX7_findEnds_30 : decode cX7_findEnds 30 = .ok (.invokevirtual 92, 3) := by decide +kernel
theorem dX7_findEnds_33 : decode cX7_findEnds 33 = .ok (.iaload, 1) := by decide +kernel
theorem dX7_findEnds_34 : decode cX7_findEnds 34 = .ok (.iadd, 1) := by decide +kernel
theorem dX7_findEnds_35 : decode cX7_findEnds 35 = .ok (.istore_n 3, 1) := by decide +kernel
theorem dX7_findEnds_36 : decode cX7_findEnds 36 = .ok (.aload_n 0, 1) := by decide +kernel
theorem dX7_findEnds_37 : decode cX7_findEnds 37 = .ok (.getfield 29, 3) := by decide +kernel
theorem dX7_findEnds_40 : decode cX7_findEnds 40 = .ok (.aload_n 0, 1) := by decide +kernel
theorem dX7_findEnds_41 : decode cX7_findEnds 41 = .ok (.iload_n 1, 1) := by decide +kernel
theorem dX7_findEnds_42 : decode cX7_findEnds 42 = .ok (.iload 4, 2) := by decide +kernel
theorem dX7_findEnds_44 : decode cX7_findEnds 44 = .ok (.iconst 2, 1) := by decide +kernel
theorem dX7_findEnds_45 : decode cX7_findEnds 45 = .ok (.invokevirtual 92, 3) := by decide +kernel
theorem dX7_findEnds_48 : decode cX7_findEnds 48 = .ok (.iaload, 1) := by decide +kernel
theorem dX7_findEnds_49 : decode cX7_findEnds 49 = .ok (.istore 4, 2) := by decide +kernel
theorem dX7_findEnds_51 : decode cX7_findEnds 51 = .ok (.goto (-36), 3) := by decide +kernel
theorem dX7_findEnds_54 : decode cX7_findEnds 54 = .ok (.aload_n 0, 1) := by decide +kernel
theorem dX7_findEnds_55 : decode cX7_findEnds 55 = .ok (.getfield 29, 3) := by decide +kernel
theorem dX7_findEnds_58 : decode cX7_findEnds 58 = .ok (.aload_n 0, 1) := by decide +kernel
theorem dX7_findEnds_59 : decode cX7_findEnds 59 = .ok (.iload_n 1, 1) := by decide +kernel
theorem dX7_findEnds_60 : decode cX7_findEnds 60 = .ok (.iload_n 2, 1) := by decide +kernel
theorem dX7_findEnds_61 : decode cX7_findEnds 61 = .ok (.iconst 3, 1) := by decide +kernel
theorem dX7_findEnds_62 : decode cX7_findEnds 62 = .ok (.invokevirtual 92, 3) := by decide +kernel
theorem dX7_findEnds_65 : decode cX7_findEnds 65 = .ok (.iload_n 3, 1) := by decide +kernel
theorem dX7_findEnds_66 : decode cX7_findEnds 66 = .ok (.iastore, 1) := by decide +kernel
theorem dX7_findEnds_67 : decode cX7_findEnds 67 = .ok (.iinc 2 1, 3) := by decide +kernel
theorem dX7_findEnds_70 : decode cX7_findEnds 70 = .ok (.goto (-68), 3) := by decide +kernel
theorem dX7_findEnds_73 : decode cX7_findEnds 73 = .ok (.return_, 1) := by decide +kernel
theorem dX7_worthOf_0 : decode cX7_worthOf 0 = .ok (.lconst 0, 1) := by decide +kernel
theorem dX7_worthOf_1 : decode cX7_worthOf 1 = .ok (.lstore_n 3, 1) := by decide +kernel
theorem dX7_worthOf_2 : decode cX7_worthOf 2 = .ok (.lconst 0, 1) := by decide +kernel
theorem dX7_worthOf_3 : decode cX7_worthOf 3 = .ok (.lstore 5, 2) := by decide +kernel
theorem dX7_worthOf_5 : decode cX7_worthOf 5 = .ok (.aload_n 0, 1) := by decide +kernel
theorem dX7_worthOf_6 : decode cX7_worthOf 6 = .ok (.getfield 16, 3) := by decide +kernel
theorem dX7_worthOf_9 : decode cX7_worthOf 9 = .ok (.iload_n 2, 1) := by decide +kernel
theorem dX7_worthOf_10 : decode cX7_worthOf 10 = .ok (.iaload, 1) := by decide +kernel
theorem dX7_worthOf_11 : decode cX7_worthOf 11 = .ok (.istore 7, 2) := by decide +kernel
theorem dX7_worthOf_13 : decode cX7_worthOf 13 = .ok (.aload_n 0, 1) := by decide +kernel
theorem dX7_worthOf_14 : decode cX7_worthOf 14 = .ok (.getfield 13, 3) := by decide +kernel
theorem dX7_worthOf_17 : decode cX7_worthOf 17 = .ok (.iload_n 2, 1) := by decide +kernel
theorem dX7_worthOf_18 : decode cX7_worthOf 18 = .ok (.iaload, 1) := by decide +kernel
theorem dX7_worthOf_19 : decode cX7_worthOf 19 = .ok (.istore 8, 2) := by decide +kernel
theorem dX7_worthOf_21 : decode cX7_worthOf 21 = .ok (.iconst 0, 1) := by decide +kernel
theorem dX7_worthOf_22 : decode cX7_worthOf 22 = .ok (.istore 9, 2) := by decide +kernel
theorem dX7_worthOf_24 : decode cX7_worthOf 24 = .ok (.iload 9, 2) := by decide +kernel
theorem dX7_worthOf_26 : decode cX7_worthOf 26 = .ok (.aload_n 0, 1) := by decide +kernel
theorem dX7_worthOf_27 : decode cX7_worthOf 27 = .ok (.getfield 89, 3) := by decide +kernel
theorem dX7_worthOf_30 : decode cX7_worthOf 30 = .ok (.if_icmp .ge 285, 3) := by decide +kernel
theorem dX7_worthOf_33 : decode cX7_worthOf 33 = .ok (.aload_n 0, 1) := by decide +kernel
theorem dX7_worthOf_34 : decode cX7_worthOf 34 = .ok (.getfield 29, 3) := by decide +kernel
theorem dX7_worthOf_37 : decode cX7_worthOf 37 = .ok (.aload_n 0, 1) := by decide +kernel
theorem dX7_worthOf_38 : decode cX7_worthOf 38 = .ok (.iload_n 1, 1) := by decide +kernel
theorem dX7_worthOf_39 : decode cX7_worthOf 39 = .ok (.iload 9, 2) := by decide +kernel
theorem dX7_worthOf_41 : decode cX7_worthOf 41 = .ok (.iload 8, 2) := by decide +kernel
theorem dX7_worthOf_43 : decode cX7_worthOf 43 = .ok (.invokevirtual 92, 3) := by decide +kernel
theorem dX7_worthOf_46 : decode cX7_worthOf 46 = .ok (.iaload, 1) := by decide +kernel
theorem dX7_worthOf_47 : decode cX7_worthOf 47 = .ok (.istore 10, 2) := by decide +kernel
theorem dX7_worthOf_49 : decode cX7_worthOf 49 = .ok (.lload 5, 2) := by decide +kernel
theorem dX7_worthOf_51 : decode cX7_worthOf 51 = .ok (.iload 10, 2) := by decide +kernel
theorem dX7_worthOf_53 : decode cX7_worthOf 53 = .ok (.i2l, 1) := by decide +kernel
theorem dX7_worthOf_54 : decode cX7_worthOf 54 = .ok (.ladd, 1) := by decide +kernel
theorem dX7_worthOf_55 : decode cX7_worthOf 55 = .ok (.lstore 5, 2) := by decide +kernel
theorem dX7_worthOf_57 : decode cX7_worthOf 57 = .ok (.iconst 0, 1) := by decide +kernel
theorem dX7_worthOf_58 : decode cX7_worthOf 58 = .ok (.istore 11, 2) := by decide +kernel
theorem dX7_worthOf_60 : decode cX7_worthOf 60 = .ok (.iconst 1, 1) := by decide +kernel
theorem dX7_worthOf_61 : decode cX7_worthOf 61 = .ok (.istore 12, 2) := by decide +kernel
theorem dX7_worthOf_63 : decode cX7_worthOf 63 = .ok (.iconst 0, 1) := by decide +kernel
theorem dX7_worthOf_64 : decode cX7_worthOf 64 = .ok (.istore 13, 2) := by decide +kernel
theorem dX7_worthOf_66 : decode cX7_worthOf 66 = .ok (.iload 13, 2) := by decide +kernel
theorem dX7_worthOf_68 : decode cX7_worthOf 68 = .ok (.aload_n 0, 1) := by decide +kernel
theorem dX7_worthOf_69 : decode cX7_worthOf 69 = .ok (.getfield 89, 3) := by decide +kernel
theorem dX7_worthOf_72 : decode cX7_worthOf 72 = .ok (.if_icmp .ge 102, 3) := by decide +kernel
theorem dX7_worthOf_75 : decode cX7_worthOf 75 = .ok (.aload_n 0, 1) := by decide +kernel
theorem dX7_worthOf_76 : decode cX7_worthOf 76 = .ok (.getfield 29, 3) := by decide +kernel
theorem dX7_worthOf_79 : decode cX7_worthOf 79 = .ok (.aload_n 0, 1) := by decide +kernel
theorem dX7_worthOf_80 : decode cX7_worthOf 80 = .ok (.iload_n 1, 1) := by decide +kernel
theorem dX7_worthOf_81 : decode cX7_worthOf 81 = .ok (.iload 13, 2) := by decide +kernel
theorem dX7_worthOf_83 : decode cX7_worthOf 83 = .ok (.iload 8, 2) := by decide +kernel
theorem dX7_worthOf_85 : decode cX7_worthOf 85 = .ok (.invokevirtual 92, 3) := by decide +kernel
theorem dX7_worthOf_88 : decode cX7_worthOf 88 = .ok (.iaload, 1) := by decide +kernel
theorem dX7_worthOf_89 : decode cX7_worthOf 89 = .ok (.iload 10, 2) := by decide +kernel
theorem dX7_worthOf_91 : decode cX7_worthOf 91 = .ok (.if_icmp .ne 7, 3) := by decide +kernel
theorem dX7_worthOf_94 : decode cX7_worthOf 94 = .ok (.iconst 1, 1) := by decide +kernel
theorem dX7_worthOf_95 : decode cX7_worthOf 95 = .ok (.goto 4, 3) := by decide +kernel
theorem dX7_worthOf_98 : decode cX7_worthOf 98 = .ok (.iconst 0, 1) := by decide +kernel
theorem dX7_worthOf_99 : decode cX7_worthOf 99 = .ok (.istore 14, 2) := by decide +kernel
theorem dX7_worthOf_101 : decode cX7_worthOf 101 = .ok (.iload 11, 2) := by decide +kernel
theorem dX7_worthOf_103 : decode cX7_worthOf 103 = .ok (.iload 14, 2) := by decide +kernel
theorem dX7_worthOf_105 : decode cX7_worthOf 105 = .ok (.ifCond .eq 7, 3) := by decide +kernel
theorem dX7_worthOf_108 : decode cX7_worthOf 108 = .ok (.iconst 1, 1) := by decide +kernel
theorem dX7_worthOf_109 : decode cX7_worthOf 109 = .ok (.goto 4, 3) := by decide +kernel
theorem dX7_worthOf_112 : decode cX7_worthOf 112 = .ok (.iconst 0, 1) := by decide +kernel
theorem dX7_worthOf_113 : decode cX7_worthOf 113 = .ok (.iadd, 1) := by decide +kernel
theorem dX7_worthOf_114 : decode cX7_worthOf 114 = .ok (.istore 11, 2) := by decide +kernel
theorem dX7_worthOf_116 : decode cX7_worthOf 116 = .ok (.iload 12, 2) := by decide +kernel
theorem dX7_worthOf_118 : decode cX7_worthOf 118 = .ok (.iload 14, 2) := by decide +kernel
theorem dX7_worthOf_120 : decode cX7_worthOf 120 = .ok (.ifCond .eq 10, 3) := by decide +kernel
theorem dX7_worthOf_123 : decode cX7_worthOf 123 = .ok (.iload 13, 2) := by decide +kernel
theorem dX7_worthOf_125 : decode cX7_worthOf 125 = .ok (.iload 9, 2) := by decide +kernel
theorem dX7_worthOf_127 : decode cX7_worthOf 127 = .ok (.if_icmp .lt 7, 3) := by decide +kernel
theorem dX7_worthOf_130 : decode cX7_worthOf 130 = .ok (.iconst 1, 1) := by decide +kernel
theorem dX7_worthOf_131 : decode cX7_worthOf 131 = .ok (.goto 4, 3) := by decide +kernel
theorem dX7_worthOf_134 : decode cX7_worthOf 134 = .ok (.iconst 0, 1) := by decide +kernel
theorem dX7_worthOf_135 : decode cX7_worthOf 135 = .ok (.iand, 1) := by decide +kernel
theorem dX7_worthOf_136 : decode cX7_worthOf 136 = .ok (.istore 12, 2) := by decide +kernel
theorem dX7_worthOf_138 : decode cX7_worthOf 138 = .ok (.lload_n 3, 1) := by decide +kernel
theorem dX7_worthOf_139 : decode cX7_worthOf 139 = .ok (.aload_n 0, 1) := by decide +kernel
theorem dX7_worthOf_140 : decode cX7_worthOf 140 = .ok (.getfield 7, 3) := by decide +kernel
theorem dX7_worthOf_143 : decode cX7_worthOf 143 = .ok (.iload_n 2, 1) := by decide +kernel
theorem dX7_worthOf_144 : decode cX7_worthOf 144 = .ok (.iaload, 1) := by decide +kernel
theorem dX7_worthOf_145 : decode cX7_worthOf 145 = .ok (.iconst 3, 1) := by decide +kernel
theorem dX7_worthOf_146 : decode cX7_worthOf 146 = .ok (.if_icmp .ne 19, 3) := by decide +kernel
theorem dX7_worthOf_149 : decode cX7_worthOf 149 = .ok (.iload 14, 2) := by decide +kernel
theorem dX7_worthOf_151 : decode cX7_worthOf 151 = .ok (.ifCond .eq 14, 3) := by decide +kernel
theorem dX7_worthOf_154 : decode cX7_worthOf 154 = .ok (.iload 13, 2) := by decide +kernel
theorem dX7_worthOf_156 : decode cX7_worthOf 156 = .ok (.iload 9, 2) := by decide +kernel
theorem dX7_worthOf_158 : decode cX7_worthOf 158 = .ok (.if_icmp .le 7, 3) := by decide +kernel
theorem dX7_worthOf_161 : decode cX7_worthOf 161 = .ok (.lconst 1, 1) := by decide +kernel
theorem dX7_worthOf_162 : decode cX7_worthOf 162 = .ok (.goto 4, 3) := by decide +kernel
theorem dX7_worthOf_165 : decode cX7_worthOf 165 = .ok (.lconst 0, 1) := by decide +kernel
theorem dX7_worthOf_166 : decode cX7_worthOf 166 = .ok (.ladd, 1) := by decide +kernel
theorem dX7_worthOf_167 : decode cX7_worthOf 167 = .ok (.lstore_n 3, 1) := by decide +kernel
theorem dX7_worthOf_168 : decode cX7_worthOf 168 = .ok (.iinc 13 1, 3) := by decide +kernel
theorem dX7_worthOf_171 : decode cX7_worthOf 171 = .ok (.goto (-105), 3) := by decide +kernel
theorem dX7_worthOf_174 : decode cX7_worthOf 174 = .ok (.iload 7, 2) := by decide +kernel
theorem dX7_worthOf_176 : decode cX7_worthOf 176 = .ok (.ifCond .ge 7, 3) := by decide +kernel
theorem dX7_worthOf_179 : decode cX7_worthOf 179 = .ok (.iconst 0, 1) := by decide +kernel
theorem dX7_worthOf_180 : decode cX7_worthOf 180 = .ok (.goto 5, 3) := by decide +kernel
theorem dX7_worthOf_183 : decode cX7_worthOf 183 = .ok (.iload 7, 2) := by decide +kernel
theorem dX7_worthOf_185 : decode cX7_worthOf 185 = .ok (.istore 13, 2) := by decide +kernel
theorem dX7_worthOf_187 : decode cX7_worthOf 187 = .ok (.aload_n 0, 1) := by decide +kernel
theorem dX7_worthOf_188 : decode cX7_worthOf 188 = .ok (.getfield 29, 3) := by decide +kernel
theorem dX7_worthOf_191 : decode cX7_worthOf 191 = .ok (.aload_n 0, 1) := by decide +kernel
theorem dX7_worthOf_192 : decode cX7_worthOf 192 = .ok (.iload_n 1, 1) := by decide +kernel
theorem dX7_worthOf_193 : decode cX7_worthOf 193 = .ok (.iload 9, 2) := by decide +kernel
theorem dX7_worthOf_195 : decode cX7_worthOf 195 = .ok (.iconst 2, 1) := by decide +kernel
theorem dX7_worthOf_196 : decode cX7_worthOf 196 = .ok (.invokevirtual 92, 3) := by decide +kernel
theorem dX7_worthOf_199 : decode cX7_worthOf 199 = .ok (.iaload, 1) := by decide +kernel
theorem dX7_worthOf_200 : decode cX7_worthOf 200 = .ok (.istore 14, 2) := by decide +kernel
theorem dX7_worthOf_202 : decode cX7_worthOf 202 = .ok (.lload_n 3, 1) := by decide +kernel
theorem dX7_worthOf_203 : decode cX7_worthOf 203 = .ok (.aload_n 0, 1) := by decide +kernel
theorem dX7_worthOf_204 : decode cX7_worthOf 204 = .ok (.getfield 7, 3) := by decide +kernel
theorem dX7_worthOf_207 : decode cX7_worthOf 207 = .ok (.iload_n 2, 1) := by decide +kernel
theorem dX7_worthOf_208 : decode cX7_worthOf 208 = .ok (.iaload, 1) := by decide +kernel
theorem dX7_worthOf_209 : decode cX7_worthOf 209 = .ok (.ifCond .ne 20, 3) := by decide +kernel
theorem dX7_worthOf_212 : decode cX7_worthOf 212 = .ok (.iload 10, 2) := by decide +kernel
theorem dX7_worthOf_214 : decode cX7_worthOf 214 = .ok (.iload 7, 2) := by decide +kernel
theorem dX7_worthOf_216 : decode cX7_worthOf 216 = .ok (.if_icmp .le 13, 3) := by decide +kernel
theorem dX7_worthOf_219 : decode cX7_worthOf 219 = .ok (.iload 10, 2) := by decide +kernel
theorem dX7_worthOf_221 : decode cX7_worthOf 221 = .ok (.i2l, 1) := by decide +kernel
theorem dX7_worthOf_222 : decode cX7_worthOf 222 = .ok (.iload 7, 2) := by decide +kernel
theorem dX7_worthOf_224 : decode cX7_worthOf 224 = .ok (.i2l, 1) := by decide +kernel
theorem dX7_worthOf_225 : decode cX7_worthOf 225 = .ok (.lsub, 1) := by decide +kernel
theorem dX7_worthOf_226 : decode cX7_worthOf 226 = .ok (.goto 4, 3) := by decide +kernel
theorem dX7_worthOf_229 : decode cX7_worthOf 229 = .ok (.lconst 0, 1) := by decide +kernel
theorem dX7_worthOf_230 : decode cX7_worthOf 230 = .ok (.ladd, 1) := by decide +kernel
theorem dX7_worthOf_231 : decode cX7_worthOf 231 = .ok (.lstore_n 3, 1) := by decide +kernel
theorem dX7_worthOf_232 : decode cX7_worthOf 232 = .ok (.lload_n 3, 1) := by decide +kernel
theorem dX7_worthOf_233 : decode cX7_worthOf 233 = .ok (.aload_n 0, 1) := by decide +kernel
theorem dX7_worthOf_234 : decode cX7_worthOf 234 = .ok (.getfield 7, 3) := by decide +kernel
theorem dX7_worthOf_237 : decode cX7_worthOf 237 = .ok (.iload_n 2, 1) := by decide +kernel
theorem dX7_worthOf_238 : decode cX7_worthOf 238 = .ok (.iaload, 1) := by decide +kernel
theorem dX7_worthOf_239 : decode cX7_worthOf 239 = .ok (.iconst 4, 1) := by decide +kernel
theorem dX7_worthOf_240 : decode cX7_worthOf 240 = .ok (.if_icmp .ne 24, 3) := by decide +kernel
theorem dX7_worthOf_243 : decode cX7_worthOf 243 = .ok (.iload 12, 2) := by decide +kernel
theorem dX7_worthOf_245 : decode cX7_worthOf 245 = .ok (.ifCond .eq 19, 3) := by decide +kernel
theorem dX7_worthOf_248 : decode cX7_worthOf 248 = .ok (.iload 11, 2) := by decide +kernel
theorem dX7_worthOf_250 : decode cX7_worthOf 250 = .ok (.iload 13, 2) := by decide +kernel
theorem dX7_worthOf_252 : decode cX7_worthOf 252 = .ok (.if_icmp .le 12, 3) := by decide +kernel
theorem dX7_worthOf_255 : decode cX7_worthOf 255 = .ok (.iload 11, 2) := by decide +kernel
theorem dX7_worthOf_257 : decode cX7_worthOf 257 = .ok (.iload 13, 2) := by decide +kernel
theorem dX7_worthOf_259 : decode cX7_worthOf 259 = .ok (.isub, 1) := by decide +kernel
theorem dX7_worthOf_260 : decode cX7_worthOf 260 = .ok (.i2l, 1) := by decide +kernel
theorem dX7_worthOf_261 : decode cX7_worthOf 261 = .ok (.goto 4, 3) := by decide +kernel
theorem dX7_worthOf_264 : decode cX7_worthOf 264 = .ok (.lconst 0, 1) := by decide +kernel
theorem dX7_worthOf_265 : decode cX7_worthOf 265 = .ok (.ladd, 1) := by decide +kernel
theorem dX7_worthOf_266 : decode cX7_worthOf 266 = .ok (.lstore_n 3, 1) := by decide +kernel
theorem dX7_worthOf_267 : decode cX7_worthOf 267 = .ok (.lload_n 3, 1) := by decide +kernel
theorem dX7_worthOf_268 : decode cX7_worthOf 268 = .ok (.aload_n 0, 1) := by decide +kernel
theorem dX7_worthOf_269 : decode cX7_worthOf 269 = .ok (.getfield 7, 3) := by decide +kernel
theorem dX7_worthOf_272 : decode cX7_worthOf 272 = .ok (.iload_n 2, 1) := by decide +kernel
theorem dX7_worthOf_273 : decode cX7_worthOf 273 = .ok (.iaload, 1) := by decide +kernel
theorem dX7_worthOf_274 : decode cX7_worthOf 274 = .ok (.iconst 5, 1) := by decide +kernel
theorem dX7_worthOf_275 : decode cX7_worthOf 275 = .ok (.if_icmp .ne 31, 3) := by decide +kernel
theorem dX7_worthOf_278 : decode cX7_worthOf 278 = .ok (.iload 14, 2) := by decide +kernel
theorem dX7_worthOf_280 : decode cX7_worthOf 280 = .ok (.ifCond .lt 26, 3) := by decide +kernel
theorem dX7_worthOf_283 : decode cX7_worthOf 283 = .ok (.aload_n 0, 1) := by decide +kernel
theorem dX7_worthOf_284 : decode cX7_worthOf 284 = .ok (.getfield 29, 3) := by decide +kernel
theorem dX7_worthOf_287 : decode cX7_worthOf 287 = .ok (.aload_n 0, 1) := by decide +kernel
theorem dX7_worthOf_288 : decode cX7_worthOf 288 = .ok (.iload_n 1, 1) := by decide +kernel
theorem dX7_worthOf_289 : decode cX7_worthOf 289 = .ok (.iload 14, 2) := by decide +kernel
theorem dX7_worthOf_291 : decode cX7_worthOf 291 = .ok (.iload 8, 2) := by decide +kernel
theorem dX7_worthOf_293 : decode cX7_worthOf 293 = .ok (.invokevirtual 92, 3) := by decide +kernel
theorem dX7_worthOf_296 : decode cX7_worthOf 296 = .ok (.iaload, 1) := by decide +kernel
theorem dX7_worthOf_297 : decode cX7_worthOf 297 = .ok (.iload 10, 2) := by decide +kernel
theorem dX7_worthOf_299 : decode cX7_worthOf 299 = .ok (.if_icmp .le 7, 3) := by decide +kernel
theorem dX7_worthOf_302 : decode cX7_worthOf 302 = .ok (.lconst 1, 1) := by decide +kernel
theorem dX7_worthOf_303 : decode cX7_worthOf 303 = .ok (.goto 4, 3) := by decide +kernel
theorem dX7_worthOf_306 : decode cX7_worthOf 306 = .ok (.lconst 0, 1) := by decide +kernel
theorem dX7_worthOf_307 : decode cX7_worthOf 307 = .ok (.ladd, 1) := by decide +kernel
theorem dX7_worthOf_308 : decode cX7_worthOf 308 = .ok (.lstore_n 3, 1) := by decide +kernel
theorem dX7_worthOf_309 : decode cX7_worthOf 309 = .ok (.iinc 9 1, 3) := by decide +kernel
theorem dX7_worthOf_312 : decode cX7_worthOf 312 = .ok (.goto (-288), 3) := by decide +kernel
theorem dX7_worthOf_315 : decode cX7_worthOf 315 = .ok (.aload_n 0, 1) := by decide +kernel
theorem dX7_worthOf_316 : decode cX7_worthOf 316 = .ok (.getfield 7, 3) := by decide +kernel
theorem dX7_worthOf_319 : decode cX7_worthOf 319 = .ok (.iload_n 2, 1) := by decide +kernel
theorem dX7_worthOf_320 : decode cX7_worthOf 320 = .ok (.iaload, 1) := by decide +kernel
theorem dX7_worthOf_321 : decode cX7_worthOf 321 = .ok (.iconst 1, 1) := by decide +kernel
theorem dX7_worthOf_322 : decode cX7_worthOf 322 = .ok (.if_icmp .ne 26, 3) := by decide +kernel
theorem dX7_worthOf_325 : decode cX7_worthOf 325 = .ok (.lload 5, 2) := by decide +kernel
theorem dX7_worthOf_327 : decode cX7_worthOf 327 = .ok (.iload 7, 2) := by decide +kernel
theorem dX7_worthOf_329 : decode cX7_worthOf 329 = .ok (.i2l, 1) := by decide +kernel
theorem dX7_worthOf_330 : decode cX7_worthOf 330 = .ok (.lcmp, 1) := by decide +kernel
theorem dX7_worthOf_331 : decode cX7_worthOf 331 = .ok (.ifCond .le 12, 3) := by decide +kernel
theorem dX7_worthOf_334 : decode cX7_worthOf 334 = .ok (.lload 5, 2) := by decide +kernel
theorem dX7_worthOf_336 : decode cX7_worthOf 336 = .ok (.iload 7, 2) := by decide +kernel
theorem dX7_worthOf_338 : decode cX7_worthOf 338 = .ok (.i2l, 1) := by decide +kernel
theorem dX7_worthOf_339 : decode cX7_worthOf 339 = .ok (.lsub, 1) := by decide +kernel
theorem dX7_worthOf_340 : decode cX7_worthOf 340 = .ok (.goto 4, 3) := by decide +kernel
theorem dX7_worthOf_343 : decode cX7_worthOf 343 = .ok (.lconst 0, 1) := by decide +kernel
theorem dX7_worthOf_344 : decode cX7_worthOf 344 = .ok (.lstore_n 3, 1) := by decide +kernel
theorem dX7_worthOf_345 : decode cX7_worthOf 345 = .ok (.goto 38, 3) := by decide +kernel
theorem dX7_worthOf_348 : decode cX7_worthOf 348 = .ok (.aload_n 0, 1) := by decide +kernel
theorem dX7_worthOf_349 : decode cX7_worthOf 349 = .ok (.getfield 7, 3) := by decide +kernel
theorem dX7_worthOf_352 : decode cX7_worthOf 352 = .ok (.iload_n 2, 1) := by decide +kernel
theorem dX7_worthOf_353 : decode cX7_worthOf 353 = .ok (.iaload, 1) := by decide +kernel
theorem dX7_worthOf_354 : decode cX7_worthOf 354 = .ok (.iconst 2, 1) := by decide +kernel
theorem dX7_worthOf_355 : decode cX7_worthOf 355 = .ok (.if_icmp .ne 28, 3) := by decide +kernel
theorem dX7_worthOf_358 : decode cX7_worthOf 358 = .ok (.lload 5, 2) := by decide +kernel
theorem dX7_worthOf_360 : decode cX7_worthOf 360 = .ok (.iload 7, 2) := by decide +kernel
theorem dX7_worthOf_362 : decode cX7_worthOf 362 = .ok (.i2l, 1) := by decide +kernel
theorem dX7_worthOf_363 : decode cX7_worthOf 363 = .ok (.lcmp, 1) := by decide +kernel
theorem dX7_worthOf_364 : decode cX7_worthOf 364 = .ok (.ifCond .le 12, 3) := by decide +kernel
theorem dX7_worthOf_367 : decode cX7_worthOf 367 = .ok (.lload 5, 2) := by decide +kernel
theorem dX7_worthOf_369 : decode cX7_worthOf 369 = .ok (.iload 7, 2) := by decide +kernel
theorem dX7_worthOf_371 : decode cX7_worthOf 371 = .ok (.i2l, 1) := by decide +kernel
theorem dX7_worthOf_372 : decode cX7_worthOf 372 = .ok (.lsub, 1) := by decide +kernel
theorem dX7_worthOf_373 : decode cX7_worthOf 373 = .ok (.goto 9, 3) := by decide +kernel
theorem dX7_worthOf_376 : decode cX7_worthOf 376 = .ok (.iload 7, 2) := by decide +kernel
theorem dX7_worthOf_378 : decode cX7_worthOf 378 = .ok (.i2l, 1) := by decide +kernel
theorem dX7_worthOf_379 : decode cX7_worthOf 379 = .ok (.lload 5, 2) := by decide +kernel
theorem dX7_worthOf_381 : decode cX7_worthOf 381 = .ok (.lsub, 1) := by decide +kernel
theorem dX7_worthOf_382 : decode cX7_worthOf 382 = .ok (.lstore_n 3, 1) := by decide +kernel
theorem dX7_worthOf_383 : decode cX7_worthOf 383 = .ok (.lload_n 3, 1) := by decide +kernel
theorem dX7_worthOf_384 : decode cX7_worthOf 384 = .ok (.aload_n 0, 1) := by decide +kernel
theorem dX7_worthOf_385 : decode cX7_worthOf 385 = .ok (.getfield 19, 3) := by decide +kernel
theorem dX7_worthOf_388 : decode cX7_worthOf 388 = .ok (.iload_n 2, 1) := by decide +kernel
theorem dX7_worthOf_389 : decode cX7_worthOf 389 = .ok (.iaload, 1) := by decide +kernel
theorem dX7_worthOf_390 : decode cX7_worthOf 390 = .ok (.i2l, 1) := by decide +kernel
theorem dX7_worthOf_391 : decode cX7_worthOf 391 = .ok (.lmul, 1) := by decide +kernel
theorem dX7_worthOf_392 : decode cX7_worthOf 392 = .ok (.lreturn, 1) := by decide +kernel
theorem dX7_scoreOf_0 : decode cX7_scoreOf 0 = .ok (.lconst 0, 1) := by decide +kernel
theorem dX7_scoreOf_1 : decode cX7_scoreOf 1 = .ok (.lstore_n 3, 1) := by decide +kernel
theorem dX7_scoreOf_2 : decode cX7_scoreOf 2 = .ok (.iconst 0, 1) := by decide +kernel
theorem dX7_scoreOf_3 : decode cX7_scoreOf 3 = .ok (.istore 5, 2) := by decide +kernel
theorem dX7_scoreOf_5 : decode cX7_scoreOf 5 = .ok (.iload 5, 2) := by decide +kernel
theorem dX7_scoreOf_7 : decode cX7_scoreOf 7 = .ok (.aload_n 0, 1) := by decide +kernel
theorem dX7_scoreOf_8 : decode cX7_scoreOf 8 = .ok (.getfield 96, 3) := by decide +kernel
theorem dX7_scoreOf_11 : decode cX7_scoreOf 11 = .ok (.if_icmp .ge 39, 3) := by decide +kernel
theorem dX7_scoreOf_14 : decode cX7_scoreOf 14 = .ok (.lload_n 3, 1) := by decide +kernel
theorem dX7_scoreOf_15 : decode cX7_scoreOf 15 = .ok (.aload_n 0, 1) := by decide +kernel
theorem dX7_scoreOf_16 : decode cX7_scoreOf 16 = .ok (.getfield 22, 3) := by decide +kernel
theorem dX7_scoreOf_19 : decode cX7_scoreOf 19 = .ok (.iload 5, 2) := by decide +kernel
theorem dX7_scoreOf_21 : decode cX7_scoreOf 21 = .ok (.iaload, 1) := by decide +kernel
theorem dX7_scoreOf_22 : decode cX7_scoreOf 22 = .ok (.iload_n 2, 1) := by decide +kernel
theorem dX7_scoreOf_23 : decode cX7_scoreOf 23 = .ok (.if_icmp .ne 18, 3) := by decide +kernel
theorem dX7_scoreOf_26 : decode cX7_scoreOf 26 = .ok (.aload_n 0, 1) := by decide +kernel
theorem dX7_scoreOf_27 : decode cX7_scoreOf 27 = .ok (.getfield 32, 3) := by decide +kernel
theorem dX7_scoreOf_30 : decode cX7_scoreOf 30 = .ok (.bipush 12, 2) := by decide +kernel
theorem dX7_scoreOf_32 : decode cX7_scoreOf 32 = .ok (.iload_n 1, 1) := by decide +kernel
theorem dX7_scoreOf_33 : decode cX7_scoreOf 33 = .ok (.imul, 1) := by decide +kernel
theorem dX7_scoreOf_34 : decode cX7_scoreOf 34 = .ok (.iload 5, 2) := by decide +kernel
theorem dX7_scoreOf_36 : decode cX7_scoreOf 36 = .ok (.iadd, 1) := by decide +kernel
theorem dX7_scoreOf_37 : decode cX7_scoreOf 37 = .ok (.laload, 1) := by decide +kernel
theorem dX7_scoreOf_38 : decode cX7_scoreOf 38 = .ok (.goto 4, 3) := by decide +kernel
theorem dX7_scoreOf_41 : decode cX7_scoreOf 41 = .ok (.lconst 0, 1) := by decide +kernel
theorem dX7_scoreOf_42 : decode cX7_scoreOf 42 = .ok (.ladd, 1) := by decide +kernel
theorem dX7_scoreOf_43 : decode cX7_scoreOf 43 = .ok (.lstore_n 3, 1) := by decide +kernel
theorem dX7_scoreOf_44 : decode cX7_scoreOf 44 = .ok (.iinc 5 1, 3) := by decide +kernel
theorem dX7_scoreOf_47 : decode cX7_scoreOf 47 = .ok (.goto (-42), 3) := by decide +kernel
theorem dX7_scoreOf_50 : decode cX7_scoreOf 50 = .ok (.lload_n 3, 1) := by decide +kernel
theorem dX7_scoreOf_51 : decode cX7_scoreOf 51 = .ok (.lreturn, 1) := by decide +kernel
theorem dX7_remember_0 : decode cX7_remember 0 = .ok (.iconst 0, 1) := by decide +kernel
theorem dX7_remember_1 : decode cX7_remember 1 = .ok (.istore_n 2, 1) := by decide +kernel
theorem dX7_remember_2 : decode cX7_remember 2 = .ok (.iload_n 2, 1) := by decide +kernel
theorem dX7_remember_3 : decode cX7_remember 3 = .ok (.sipush 160, 3) := by decide +kernel
theorem dX7_remember_6 : decode cX7_remember 6 = .ok (.if_icmp .ge 27, 3) := by decide +kernel
theorem dX7_remember_9 : decode cX7_remember 9 = .ok (.aload_n 0, 1) := by decide +kernel
theorem dX7_remember_10 : decode cX7_remember 10 = .ok (.getfield 79, 3) := by decide +kernel
theorem dX7_remember_13 : decode cX7_remember 13 = .ok (.iload_n 2, 1) := by decide +kernel
theorem dX7_remember_14 : decode cX7_remember 14 = .ok (.aload_n 0, 1) := by decide +kernel
theorem dX7_remember_15 : decode cX7_remember 15 = .ok (.getfield 29, 3) := by decide +kernel
theorem dX7_remember_18 : decode cX7_remember 18 = .ok (.sipush 160, 3) := by decide +kernel
theorem dX7_remember_21 : decode cX7_remember 21 = .ok (.iload_n 1, 1) := by decide +kernel
theorem dX7_remember_22 : decode cX7_remember 22 = .ok (.imul, 1) := by decide +kernel
theorem dX7_remember_23 : decode cX7_remember 23 = .ok (.iload_n 2, 1) := by decide +kernel
theorem dX7_remember_24 : decode cX7_remember 24 = .ok (.iadd, 1) := by decide +kernel
theorem dX7_remember_25 : decode cX7_remember 25 = .ok (.iaload, 1) := by decide +kernel
theorem dX7_remember_26 : decode cX7_remember 26 = .ok (.iastore, 1) := by decide +kernel
theorem dX7_remember_27 : decode cX7_remember 27 = .ok (.iinc 2 1, 3) := by decide +kernel
theorem dX7_remember_30 : decode cX7_remember 30 = .ok (.goto (-28), 3) := by decide +kernel
theorem dX7_remember_33 : decode cX7_remember 33 = .ok (.iconst 0, 1) := by decide +kernel
theorem dX7_remember_34 : decode cX7_remember 34 = .ok (.istore_n 2, 1) := by decide +kernel
theorem dX7_remember_35 : decode cX7_remember 35 = .ok (.iload_n 2, 1) := by decide +kernel
theorem dX7_remember_36 : decode cX7_remember 36 = .ok (.aload_n 0, 1) := by decide +kernel
theorem dX7_remember_37 : decode cX7_remember 37 = .ok (.getfield 96, 3) := by decide +kernel
theorem dX7_remember_40 : decode cX7_remember 40 = .ok (.if_icmp .ge 21, 3) := by decide +kernel
theorem dX7_remember_43 : decode cX7_remember 43 = .ok (.aload_n 0, 1) := by decide +kernel
theorem dX7_remember_44 : decode cX7_remember 44 = .ok (.getfield 82, 3) := by decide +kernel
theorem dX7_remember_47 : decode cX7_remember 47 = .ok (.iload_n 2, 1) := by decide +kernel
theorem dX7_remember_48 : decode cX7_remember 48 = .ok (.aload_n 0, 1) := by decide +kernel
theorem dX7_remember_49 : decode cX7_remember 49 = .ok (.iload_n 1, 1) := by decide +kernel
theorem dX7_remember_50 : decode cX7_remember 50 = .ok (.iload_n 2, 1) := by decide +kernel
theorem dX7_remember_51 : decode cX7_remember 51 = .ok (.invokevirtual 99, 3) := by decide +kernel
theorem dX7_remember_54 : decode cX7_remember 54 = .ok (.lastore, 1) := by decide +kernel
theorem dX7_remember_55 : decode cX7_remember 55 = .ok (.iinc 2 1, 3) := by decide +kernel
theorem dX7_remember_58 : decode cX7_remember 58 = .ok (.goto (-23), 3) := by decide +kernel
theorem dX7_remember_61 : decode cX7_remember 61 = .ok (.return_, 1) := by decide +kernel
theorem dX7_others_0 : decode cX7_others 0 = .ok (.iconst 0, 1) := by decide +kernel
theorem dX7_others_1 : decode cX7_others 1 = .ok (.istore_n 2, 1) := by decide +kernel
theorem dX7_others_2 : decode cX7_others 2 = .ok (.iconst 0, 1) := by decide +kernel
theorem dX7_others_3 : decode cX7_others 3 = .ok (.istore_n 3, 1) := by decide +kernel
theorem dX7_others_4 : decode cX7_others 4 = .ok (.iload_n 3, 1) := by decide +kernel
theorem dX7_others_5 : decode cX7_others 5 = .ok (.iconst 4, 1) := by decide +kernel
theorem dX7_others_6 : decode cX7_others 6 = .ok (.aload_n 0, 1) := by decide +kernel
theorem dX7_others_7 : decode cX7_others 7 = .ok (.getfield 89, 3) := by decide +kernel
theorem dX7_others_10 : decode cX7_others 10 = .ok (.imul, 1) := by decide +kernel
theorem dX7_others_11 : decode cX7_others 11 = .ok (.if_icmp .ge 38, 3) := by decide +kernel
theorem dX7_others_14 : decode cX7_others 14 = .ok (.iload_n 2, 1) := by decide +kernel
theorem dX7_others_15 : decode cX7_others 15 = .ok (.aload_n 0, 1) := by decide +kernel
theorem dX7_others_16 : decode cX7_others 16 = .ok (.getfield 79, 3) := by decide +kernel
theorem dX7_others_19 : decode cX7_others 19 = .ok (.iload_n 3, 1) := by decide +kernel
theorem dX7_others_20 : decode cX7_others 20 = .ok (.iaload, 1) := by decide +kernel
theorem dX7_others_21 : decode cX7_others 21 = .ok (.aload_n 0, 1) := by decide +kernel
theorem dX7_others_22 : decode cX7_others 22 = .ok (.getfield 29, 3) := by decide +kernel
theorem dX7_others_25 : decode cX7_others 25 = .ok (.sipush 160, 3) := by decide +kernel
theorem dX7_others_28 : decode cX7_others 28 = .ok (.iload_n 1, 1) := by decide +kernel
theorem dX7_others_29 : decode cX7_others 29 = .ok (.imul, 1) := by decide +kernel
theorem dX7_others_30 : decode cX7_others 30 = .ok (.iload_n 3, 1) := by decide +kernel
theorem dX7_others_31 : decode cX7_others 31 = .ok (.iadd, 1) := by decide +kernel
theorem dX7_others_32 : decode cX7_others 32 = .ok (.iaload, 1) := by decide +kernel
theorem dX7_others_33 : decode cX7_others 33 = .ok (.if_icmp .ne 7, 3) := by decide +kernel
theorem dX7_others_36 : decode cX7_others 36 = .ok (.iconst 0, 1) := by decide +kernel
theorem dX7_others_37 : decode cX7_others 37 = .ok (.goto 4, 3) := by decide +kernel
theorem dX7_others_40 : decode cX7_others 40 = .ok (.iconst 1, 1) := by decide +kernel
theorem dX7_others_41 : decode cX7_others 41 = .ok (.iadd, 1) := by decide +kernel
theorem dX7_others_42 : decode cX7_others 42 = .ok (.istore_n 2, 1) := by decide +kernel
theorem dX7_others_43 : decode cX7_others 43 = .ok (.iinc 3 1, 3) := by decide +kernel
theorem dX7_others_46 : decode cX7_others 46 = .ok (.goto (-42), 3) := by decide +kernel
theorem dX7_others_49 : decode cX7_others 49 = .ok (.iload_n 2, 1) := by decide +kernel
theorem dX7_others_50 : decode cX7_others 50 = .ok (.ireturn, 1) := by decide +kernel
theorem dX7_pairs_0 : decode cX7_pairs 0 = .ok (.iconst 0, 1) := by decide +kernel
theorem dX7_pairs_1 : decode cX7_pairs 1 = .ok (.istore_n 2, 1) := by decide +kernel
theorem dX7_pairs_2 : decode cX7_pairs 2 = .ok (.iconst 0, 1) := by decide +kernel
theorem dX7_pairs_3 : decode cX7_pairs 3 = .ok (.istore_n 3, 1) := by decide +kernel
theorem dX7_pairs_4 : decode cX7_pairs 4 = .ok (.iload_n 3, 1) := by decide +kernel
theorem dX7_pairs_5 : decode cX7_pairs 5 = .ok (.aload_n 0, 1) := by decide +kernel
theorem dX7_pairs_6 : decode cX7_pairs 6 = .ok (.getfield 96, 3) := by decide +kernel
theorem dX7_pairs_9 : decode cX7_pairs 9 = .ok (.if_icmp .ge 133, 3) := by decide +kernel
theorem dX7_pairs_12 : decode cX7_pairs 12 = .ok (.iconst 0, 1) := by decide +kernel
theorem dX7_pairs_13 : decode cX7_pairs 13 = .ok (.istore 4, 2) := by decide +kernel
theorem dX7_pairs_15 : decode cX7_pairs 15 = .ok (.iload 4, 2) := by decide +kernel
theorem dX7_pairs_17 : decode cX7_pairs 17 = .ok (.aload_n 0, 1) := by decide +kernel
theorem dX7_pairs_18 : decode cX7_pairs 18 = .ok (.getfield 89, 3) := by decide +kernel
theorem dX7_pairs_21 : decode cX7_pairs 21 = .ok (.if_icmp .ge 115, 3) := by decide +kernel
theorem dX7_pairs_24 : decode cX7_pairs 24 = .ok (.aload_n 0, 1) := by decide +kernel
theorem dX7_pairs_25 : decode cX7_pairs 25 = .ok (.getfield 79, 3) := by decide +kernel
theorem dX7_pairs_28 : decode cX7_pairs 28 = .ok (.iconst 4, 1) := by decide +kernel
theorem dX7_pairs_29 : decode cX7_pairs 29 = .ok (.iload 4, 2) := by decide +kernel
theorem dX7_pairs_31 : decode cX7_pairs 31 = .ok (.imul, 1) := by decide +kernel
theorem dX7_pairs_32 : decode cX7_pairs 32 = .ok (.aload_n 0, 1) := by decide +kernel
theorem dX7_pairs_33 : decode cX7_pairs 33 = .ok (.getfield 13, 3) := by decide +kernel
theorem dX7_pairs_36 : decode cX7_pairs 36 = .ok (.iload_n 3, 1) := by decide +kernel
theorem dX7_pairs_37 : decode cX7_pairs 37 = .ok (.iaload, 1) := by decide +kernel
theorem dX7_pairs_38 : decode cX7_pairs 38 = .ok (.iadd, 1) := by decide +kernel
theorem dX7_pairs_39 : decode cX7_pairs 39 = .ok (.iaload, 1) := by decide +kernel
theorem dX7_pairs_40 : decode cX7_pairs 40 = .ok (.aload_n 0, 1) := by decide +kernel
theorem dX7_pairs_41 : decode cX7_pairs 41 = .ok (.getfield 29, 3) := by decide +kernel
theorem dX7_pairs_44 : decode cX7_pairs 44 = .ok (.aload_n 0, 1) := by decide +kernel
theorem dX7_pairs_45 : decode cX7_pairs 45 = .ok (.iload_n 1, 1) := by decide +kernel
theorem dX7_pairs_46 : decode cX7_pairs 46 = .ok (.iload 4, 2) := by decide +kernel
theorem dX7_pairs_48 : decode cX7_pairs 48 = .ok (.aload_n 0, 1) := by decide +kernel
theorem dX7_pairs_49 : decode cX7_pairs 49 = .ok (.getfield 13, 3) := by decide +kernel
theorem dX7_pairs_52 : decode cX7_pairs 52 = .ok (.iload_n 3, 1) := by decide +kernel
theorem dX7_pairs_53 : decode cX7_pairs 53 = .ok (.iaload, 1) := by decide +kernel
theorem dX7_pairs_54 : decode cX7_pairs 54 = .ok (.invokevirtual 92, 3) := by decide +kernel
theorem dX7_pairs_57 : decode cX7_pairs 57 = .ok (.iaload, 1) := by decide +kernel
theorem dX7_pairs_58 : decode cX7_pairs 58 = .ok (.if_icmp .eq 7, 3) := by decide +kernel
theorem dX7_pairs_61 : decode cX7_pairs 61 = .ok (.iconst 1, 1) := by decide +kernel
theorem dX7_pairs_62 : decode cX7_pairs 62 = .ok (.goto 4, 3) := by decide +kernel
theorem dX7_pairs_65 : decode cX7_pairs 65 = .ok (.iconst 0, 1) := by decide +kernel
theorem dX7_pairs_66 : decode cX7_pairs 66 = .ok (.istore 5, 2) := by decide +kernel
theorem dX7_pairs_68 : decode cX7_pairs 68 = .ok (.aload_n 0, 1) := by decide +kernel
theorem dX7_pairs_69 : decode cX7_pairs 69 = .ok (.getfield 7, 3) := by decide +kernel
theorem dX7_pairs_72 : decode cX7_pairs 72 = .ok (.iload_n 3, 1) := by decide +kernel
theorem dX7_pairs_73 : decode cX7_pairs 73 = .ok (.iaload, 1) := by decide +kernel
theorem dX7_pairs_74 : decode cX7_pairs 74 = .ok (.iconst 5, 1) := by decide +kernel
theorem dX7_pairs_75 : decode cX7_pairs 75 = .ok (.if_icmp .ne 34, 3) := by decide +kernel
theorem dX7_pairs_78 : decode cX7_pairs 78 = .ok (.aload_n 0, 1) := by decide +kernel
theorem dX7_pairs_79 : decode cX7_pairs 79 = .ok (.getfield 79, 3) := by decide +kernel
theorem dX7_pairs_82 : decode cX7_pairs 82 = .ok (.iconst 4, 1) := by decide +kernel
theorem dX7_pairs_83 : decode cX7_pairs 83 = .ok (.iload 4, 2) := by decide +kernel
theorem dX7_pairs_85 : decode cX7_pairs 85 = .ok (.imul, 1) := by decide +kernel
theorem dX7_pairs_86 : decode cX7_pairs 86 = .ok (.iconst 2, 1) := by decide +kernel
theorem dX7_pairs_87 : decode cX7_pairs 87 = .ok (.iadd, 1) := by decide +kernel
theorem dX7_pairs_88 : decode cX7_pairs 88 = .ok (.iaload, 1) := by decide +kernel
theorem dX7_pairs_89 : decode cX7_pairs 89 = .ok (.aload_n 0, 1) := by decide +kernel
theorem dX7_pairs_90 : decode cX7_pairs 90 = .ok (.getfield 29, 3) := by decide +kernel
theorem dX7_pairs_93 : decode cX7_pairs 93 = .ok (.aload_n 0, 1) := by decide +kernel
theorem dX7_pairs_94 : decode cX7_pairs 94 = .ok (.iload_n 1, 1) := by decide +kernel
theorem dX7_pairs_95 : decode cX7_pairs 95 = .ok (.iload 4, 2) := by decide +kernel
theorem dX7_pairs_97 : decode cX7_pairs 97 = .ok (.iconst 2, 1) := by decide +kernel
theorem dX7_pairs_98 : decode cX7_pairs 98 = .ok (.invokevirtual 92, 3) := by decide +kernel
theorem dX7_pairs_101 : decode cX7_pairs 101 = .ok (.iaload, 1) := by decide +kernel
theorem dX7_pairs_102 : decode cX7_pairs 102 = .ok (.if_icmp .eq 7, 3) := by decide +kernel
theorem dX7_pairs_105 : decode cX7_pairs 105 = .ok (.iconst 1, 1) := by decide +kernel
theorem dX7_pairs_106 : decode cX7_pairs 106 = .ok (.goto 4, 3) := by decide +kernel
theorem dX7_pairs_109 : decode cX7_pairs 109 = .ok (.iconst 0, 1) := by decide +kernel
theorem dX7_pairs_110 : decode cX7_pairs 110 = .ok (.istore 6, 2) := by decide +kernel
theorem dX7_pairs_112 : decode cX7_pairs 112 = .ok (.iload_n 2, 1) := by decide +kernel
theorem dX7_pairs_113 : decode cX7_pairs 113 = .ok (.iload 5, 2) := by decide +kernel
theorem dX7_pairs_115 : decode cX7_pairs 115 = .ok (.ifCond .ne 8, 3) := by decide +kernel
theorem dX7_pairs_118 : decode cX7_pairs 118 = .ok (.iload 6, 2) := by decide +kernel
theorem dX7_pairs_120 : decode cX7_pairs 120 = .ok (.ifCond .eq 7, 3) := by decide +kernel
theorem dX7_pairs_123 : decode cX7_pairs 123 = .ok (.iconst 1, 1) := by decide +kernel
theorem dX7_pairs_124 : decode cX7_pairs 124 = .ok (.goto 4, 3) := by decide +kernel
theorem dX7_pairs_127 : decode cX7_pairs 127 = .ok (.iconst 0, 1) := by decide +kernel
theorem dX7_pairs_128 : decode cX7_pairs 128 = .ok (.iadd, 1) := by decide +kernel
theorem dX7_pairs_129 : decode cX7_pairs 129 = .ok (.istore_n 2, 1) := by decide +kernel
theorem dX7_pairs_130 : decode cX7_pairs 130 = .ok (.iinc 4 1, 3) := by decide +kernel
theorem dX7_pairs_133 : decode cX7_pairs 133 = .ok (.goto (-118), 3) := by decide +kernel
theorem dX7_pairs_136 : decode cX7_pairs 136 = .ok (.iinc 3 1, 3) := by decide +kernel
theorem dX7_pairs_139 : decode cX7_pairs 139 = .ok (.goto (-135), 3) := by decide +kernel
theorem dX7_pairs_142 : decode cX7_pairs 142 = .ok (.iload_n 2, 1) := by decide +kernel
theorem dX7_pairs_143 : decode cX7_pairs 143 = .ok (.ireturn, 1) := by decide +kernel
theorem dX7_isBegun_0 : decode cX7_isBegun 0 = .ok (.aload_n 0, 1) := by decide +kernel
theorem dX7_isBegun_1 : decode cX7_isBegun 1 = .ok (.getfield 25, 3) := by decide +kernel
theorem dX7_isBegun_4 : decode cX7_isBegun 4 = .ok (.iconst 1, 1) := by decide +kernel
theorem dX7_isBegun_5 : decode cX7_isBegun 5 = .ok (.if_icmp .gt 12, 3) := by decide +kernel
theorem dX7_isBegun_8 : decode cX7_isBegun 8 = .ok (.aload_n 0, 1) := by decide +kernel
theorem dX7_isBegun_9 : decode cX7_isBegun 9 = .ok (.getfield 40, 3) := by decide +kernel
theorem dX7_isBegun_12 : decode cX7_isBegun 12 = .ok (.iconst 0, 1) := by decide +kernel
theorem dX7_isBegun_13 : decode cX7_isBegun 13 = .ok (.iaload, 1) := by decide +kernel
theorem dX7_isBegun_14 : decode cX7_isBegun 14 = .ok (.ifCond .le 7, 3) := by decide +kernel
theorem dX7_isBegun_17 : decode cX7_isBegun 17 = .ok (.iconst 1, 1) := by decide +kernel
theorem dX7_isBegun_18 : decode cX7_isBegun 18 = .ok (.goto 4, 3) := by decide +kernel
theorem dX7_isBegun_21 : decode cX7_isBegun 21 = .ok (.iconst 0, 1) := by decide +kernel
theorem dX7_isBegun_22 : decode cX7_isBegun 22 = .ok (.ireturn, 1) := by decide +kernel
theorem dX7_object_0 : decode cX7_object 0 = .ok (.aload_n 0, 1) := by decide +kernel
theorem dX7_object_1 : decode cX7_object 1 = .ok (.invokevirtual 103, 3) := by decide +kernel
theorem dX7_object_4 : decode cX7_object 4 = .ok (.ifCond .eq 6, 3) := by decide +kernel
theorem dX7_object_7 : decode cX7_object 7 = .ok (.bipush (-3), 2) := by decide +kernel
theorem dX7_object_9 : decode cX7_object 9 = .ok (.ireturn, 1) := by decide +kernel
theorem dX7_object_10 : decode cX7_object 10 = .ok (.aload_n 0, 1) := by decide +kernel
theorem dX7_object_11 : decode cX7_object 11 = .ok (.getfield 89, 3) := by decide +kernel
theorem dX7_object_14 : decode cX7_object 14 = .ok (.bipush 40, 2) := by decide +kernel
theorem dX7_object_16 : decode cX7_object 16 = .ok (.if_icmp .ne 6, 3) := by decide +kernel
theorem dX7_object_19 : decode cX7_object 19 = .ok (.bipush (-4), 2) := by decide +kernel
theorem dX7_object_21 : decode cX7_object 21 = .ok (.ireturn, 1) := by decide +kernel
theorem dX7_object_22 : decode cX7_object 22 = .ok (.aload_n 0, 1) := by decide +kernel
theorem dX7_object_23 : decode cX7_object 23 = .ok (.iconst 0, 1) := by decide +kernel
theorem dX7_object_24 : decode cX7_object 24 = .ok (.invokevirtual 107, 3) := by decide +kernel
theorem dX7_object_27 : decode cX7_object 27 = .ok (.aload_n 0, 1) := by decide +kernel
theorem dX7_object_28 : decode cX7_object 28 = .ok (.getfield 29, 3) := by decide +kernel
theorem dX7_object_31 : decode cX7_object 31 = .ok (.aload_n 0, 1) := by decide +kernel
theorem dX7_object_32 : decode cX7_object 32 = .ok (.iconst 0, 1) := by decide +kernel
theorem dX7_object_33 : decode cX7_object 33 = .ok (.aload_n 0, 1) := by decide +kernel
theorem dX7_object_34 : decode cX7_object 34 = .ok (.getfield 89, 3) := by decide +kernel
theorem dX7_object_37 : decode cX7_object 37 = .ok (.iconst 2, 1) := by decide +kernel
theorem dX7_object_38 : decode cX7_object 38 = .ok (.invokevirtual 92, 3) := by decide +kernel
theorem dX7_object_41 : decode cX7_object 41 = .ok (.iconst (-1), 1) := by decide +kernel
theorem dX7_object_42 : decode cX7_object 42 = .ok (.iastore, 1) := by decide +kernel
theorem dX7_object_43 : decode cX7_object 43 = .ok (.aload_n 0, 1) := by decide +kernel
theorem dX7_object_44 : decode cX7_object 44 = .ok (.dup, 1) := by decide +kernel
theorem dX7_object_45 : decode cX7_object 45 = .ok (.getfield 89, 3) := by decide +kernel
theorem dX7_object_48 : decode cX7_object 48 = .ok (.iconst 1, 1) := by decide +kernel
theorem dX7_object_49 : decode cX7_object 49 = .ok (.iadd, 1) := by decide +kernel
theorem dX7_object_50 : decode cX7_object 50 = .ok (.putfield 89, 3) := by decide +kernel
theorem dX7_object_53 : decode cX7_object 53 = .ok (.iconst 0, 1) := by decide +kernel
theorem dX7_object_54 : decode cX7_object 54 = .ok (.istore_n 1, 1) := by decide +kernel
theorem dX7_object_55 : decode cX7_object 55 = .ok (.iload_n 1, 1) := by decide +kernel
theorem dX7_object_56 : decode cX7_object 56 = .ok (.aload_n 0, 1) := by decide +kernel
theorem dX7_object_57 : decode cX7_object 57 = .ok (.getfield 96, 3) := by decide +kernel
theorem dX7_object_60 : decode cX7_object 60 = .ok (.if_icmp .ge 31, 3) := by decide +kernel
theorem dX7_object_63 : decode cX7_object 63 = .ok (.aload_n 0, 1) := by decide +kernel
theorem dX7_object_64 : decode cX7_object 64 = .ok (.getfield 32, 3) := by decide +kernel
theorem dX7_object_67 : decode cX7_object 67 = .ok (.iload_n 1, 1) := by decide +kernel
theorem dX7_object_68 : decode cX7_object 68 = .ok (.dup2, 1) := by decide +kernel
theorem dX7_object_69 : decode cX7_object 69 = .ok (.laload, 1) := by decide +kernel
theorem dX7_object_70 : decode cX7_object 70 = .ok (.aload_n 0, 1) := by decide +kernel
theorem dX7_object_71 : decode cX7_object 71 = .ok (.iconst 0, 1) := by decide +kernel
theorem dX7_object_72 : decode cX7_object 72 = .ok (.iload_n 1, 1) := by decide +kernel
theorem dX7_object_73 : decode cX7_object 73 = .ok (.invokevirtual 99, 3) := by decide +kernel
theorem dX7_object_76 : decode cX7_object 76 = .ok (.aload_n 0, 1) := by decide +kernel
theorem dX7_object_77 : decode cX7_object 77 = .ok (.getfield 82, 3) := by decide +kernel
theorem dX7_object_80 : decode cX7_object 80 = .ok (.iload_n 1, 1) := by decide +kernel
theorem dX7_object_81 : decode cX7_object 81 = .ok (.laload, 1) := by decide +kernel
theorem dX7_object_82 : decode cX7_object 82 = .ok (.lsub, 1) := by decide +kernel
theorem dX7_object_83 : decode cX7_object 83 = .ok (.ladd, 1) := by decide +kernel
theorem dX7_object_84 : decode cX7_object 84 = .ok (.lastore, 1) := by decide +kernel
theorem dX7_object_85 : decode cX7_object 85 = .ok (.iinc 1 1, 3) := by decide +kernel
theorem dX7_object_88 : decode cX7_object 88 = .ok (.goto (-33), 3) := by decide +kernel
theorem dX7_object_91 : decode cX7_object 91 = .ok (.aload_n 0, 1) := by decide +kernel
theorem dX7_object_92 : decode cX7_object 92 = .ok (.getfield 89, 3) := by decide +kernel
theorem dX7_object_95 : decode cX7_object 95 = .ok (.iconst 1, 1) := by decide +kernel
theorem dX7_object_96 : decode cX7_object 96 = .ok (.isub, 1) := by decide +kernel
theorem dX7_object_97 : decode cX7_object 97 = .ok (.ireturn, 1) := by decide +kernel
theorem dX7_rule_0 : decode cX7_rule 0 = .ok (.iload_n 1, 1) := by decide +kernel
theorem dX7_rule_1 : decode cX7_rule 1 = .ok (.iconst 0, 1) := by decide +kernel
theorem dX7_rule_2 : decode cX7_rule 2 = .ok (.iconst 5, 1) := by decide +kernel
theorem dX7_rule_3 : decode cX7_rule 3 = .ok (.invokestatic 85, 3) := by decide +kernel
theorem dX7_rule_6 : decode cX7_rule 6 = .ok (.ifCond .eq 45, 3) := by decide +kernel
theorem dX7_rule_9 : decode cX7_rule 9 = .ok (.iload_n 2, 1) := by decide +kernel
theorem dX7_rule_10 : decode cX7_rule 10 = .ok (.iconst 0, 1) := by decide +kernel
theorem dX7_rule_11 : decode cX7_rule 11 = .ok (.iconst 3, 1) := by decide +kernel
theorem dX7_rule_12 : decode cX7_rule 12 = .ok (.invokestatic 85, 3) := by decide +kernel
theorem dX7_rule_15 : decode cX7_rule 15 = .ok (.ifCond .eq 36, 3) := by decide +kernel
theorem dX7_rule_18 : decode cX7_rule 18 = .ok (.iload_n 3, 1) := by decide +kernel
theorem dX7_rule_19 : decode cX7_rule 19 = .ok (.ldc 111, 2) := by decide +kernel
theorem dX7_rule_21 : decode cX7_rule 21 = .ok (.ldc 112, 2) := by decide +kernel
theorem dX7_rule_23 : decode cX7_rule 23 = .ok (.invokestatic 85, 3) := by decide +kernel
theorem dX7_rule_26 : decode cX7_rule 26 = .ok (.ifCond .eq 25, 3) := by decide +kernel
theorem dX7_rule_29 : decode cX7_rule 29 = .ok (.iload 4, 2) := by decide +kernel
theorem dX7_rule_31 : decode cX7_rule 31 = .ok (.iconst 1, 1) := by decide +kernel
theorem dX7_rule_32 : decode cX7_rule 32 = .ok (.sipush 1000, 3) := by decide +kernel
theorem dX7_rule_35 : decode cX7_rule 35 = .ok (.invokestatic 85, 3) := by decide +kernel
theorem dX7_rule_38 : decode cX7_rule 38 = .ok (.ifCond .eq 13, 3) := by decide +kernel
theorem dX7_rule_41 : decode cX7_rule 41 = .ok (.iload 5, 2) := by decide +kernel
theorem dX7_rule_43 : decode cX7_rule 43 = .ok (.iconst 0, 1) := by decide +kernel
theorem dX7_rule_44 : decode cX7_rule 44 = .ok (.iconst 2, 1) := by decide +kernel
theorem dX7_rule_45 : decode cX7_rule 45 = .ok (.invokestatic 85, 3) := by decide +kernel
theorem dX7_rule_48 : decode cX7_rule 48 = .ok (.ifCond .ne 5, 3) := by decide +kernel
theorem dX7_rule_51 : decode cX7_rule 51 = .ok (.iconst (-1), 1) := by decide +kernel
theorem dX7_rule_52 : decode cX7_rule 52 = .ok (.ireturn, 1) := by decide +kernel
theorem dX7_rule_53 : decode cX7_rule 53 = .ok (.aload_n 0, 1) := by decide +kernel
theorem dX7_rule_54 : decode cX7_rule 54 = .ok (.invokevirtual 103, 3) := by decide +kernel
theorem dX7_rule_57 : decode cX7_rule 57 = .ok (.ifCond .eq 6, 3) := by decide +kernel
theorem dX7_rule_60 : decode cX7_rule 60 = .ok (.bipush (-3), 2) := by decide +kernel
theorem dX7_rule_62 : decode cX7_rule 62 = .ok (.ireturn, 1) := by decide +kernel
theorem dX7_rule_63 : decode cX7_rule 63 = .ok (.aload_n 0, 1) := by decide +kernel
theorem dX7_rule_64 : decode cX7_rule 64 = .ok (.getfield 96, 3) := by decide +kernel
theorem dX7_rule_67 : decode cX7_rule 67 = .ok (.bipush 12, 2) := by decide +kernel
theorem dX7_rule_69 : decode cX7_rule 69 = .ok (.if_icmp .ne 6, 3) := by decide +kernel
theorem dX7_rule_72 : decode cX7_rule 72 = .ok (.bipush (-4), 2) := by decide +kernel
theorem dX7_rule_74 : decode cX7_rule 74 = .ok (.ireturn, 1) := by decide +kernel
theorem dX7_rule_75 : decode cX7_rule 75 = .ok (.aload_n 0, 1) := by decide +kernel
theorem dX7_rule_76 : decode cX7_rule 76 = .ok (.getfield 7, 3) := by decide +kernel
theorem dX7_rule_79 : decode cX7_rule 79 = .ok (.aload_n 0, 1) := by decide +kernel
theorem dX7_rule_80 : decode cX7_rule 80 = .ok (.getfield 96, 3) := by decide +kernel
theorem dX7_rule_83 : decode cX7_rule 83 = .ok (.iload_n 1, 1) := by decide +kernel
theorem dX7_rule_84 : decode cX7_rule 84 = .ok (.iastore, 1) := by decide +kernel
theorem dX7_rule_85 : decode cX7_rule 85 = .ok (.aload_n 0, 1) := by decide +kernel
theorem dX7_rule_86 : decode cX7_rule 86 = .ok (.getfield 13, 3) := by decide +kernel
theorem dX7_rule_89 : decode cX7_rule 89 = .ok (.aload_n 0, 1) := by decide +kernel
theorem dX7_rule_90 : decode cX7_rule 90 = .ok (.getfield 96, 3) := by decide +kernel
theorem dX7_rule_93 : decode cX7_rule 93 = .ok (.iload_n 2, 1) := by decide +kernel
theorem dX7_rule_94 : decode cX7_rule 94 = .ok (.iastore, 1) := by decide +kernel
theorem dX7_rule_95 : decode cX7_rule 95 = .ok (.aload_n 0, 1) := by decide +kernel
theorem dX7_rule_96 : decode cX7_rule 96 = .ok (.getfield 16, 3) := by decide +kernel
theorem dX7_rule_99 : decode cX7_rule 99 = .ok (.aload_n 0, 1) := by decide +kernel
theorem dX7_rule_100 : decode cX7_rule 100 = .ok (.getfield 96, 3) := by decide +kernel
theorem dX7_rule_103 : decode cX7_rule 103 = .ok (.iload_n 3, 1) := by decide +kernel
theorem dX7_rule_104 : decode cX7_rule 104 = .ok (.iastore, 1) := by decide +kernel
theorem dX7_rule_105 : decode cX7_rule 105 = .ok (.aload_n 0, 1) := by decide +kernel
theorem dX7_rule_106 : decode cX7_rule 106 = .ok (.getfield 19, 3) := by decide +kernel
theorem dX7_rule_109 : decode cX7_rule 109 = .ok (.aload_n 0, 1) := by decide +kernel
theorem dX7_rule_110 : decode cX7_rule 110 = .ok (.getfield 96, 3) := by decide +kernel
theorem dX7_rule_113 : decode cX7_rule 113 = .ok (.iload 4, 2) := by decide +kernel
theorem dX7_rule_115 : decode cX7_rule 115 = .ok (.iastore, 1) := by decide +kernel
theorem dX7_rule_116 : decode cX7_rule 116 = .ok (.aload_n 0, 1) := by decide +kernel
theorem dX7_rule_117 : decode cX7_rule 117 = .ok (.getfield 22, 3) := by decide +kernel
theorem dX7_rule_120 : decode cX7_rule 120 = .ok (.aload_n 0, 1) := by decide +kernel
theorem dX7_rule_121 : decode cX7_rule 121 = .ok (.getfield 96, 3) := by decide +kernel
theorem dX7_rule_124 : decode cX7_rule 124 = .ok (.iload 5, 2) := by decide +kernel
theorem dX7_rule_126 : decode cX7_rule 126 = .ok (.iastore, 1) := by decide +kernel
theorem dX7_rule_127 : decode cX7_rule 127 = .ok (.aload_n 0, 1) := by decide +kernel
theorem dX7_rule_128 : decode cX7_rule 128 = .ok (.getfield 32, 3) := by decide +kernel
theorem dX7_rule_131 : decode cX7_rule 131 = .ok (.aload_n 0, 1) := by decide +kernel
theorem dX7_rule_132 : decode cX7_rule 132 = .ok (.getfield 96, 3) := by decide +kernel
theorem dX7_rule_135 : decode cX7_rule 135 = .ok (.aload_n 0, 1) := by decide +kernel
theorem dX7_rule_136 : decode cX7_rule 136 = .ok (.iconst 0, 1) := by decide +kernel
theorem dX7_rule_137 : decode cX7_rule 137 = .ok (.aload_n 0, 1) := by decide +kernel
theorem dX7_rule_138 : decode cX7_rule 138 = .ok (.getfield 96, 3) := by decide +kernel
theorem dX7_rule_141 : decode cX7_rule 141 = .ok (.invokevirtual 99, 3) := by decide +kernel
theorem dX7_rule_144 : decode cX7_rule 144 = .ok (.lastore, 1) := by decide +kernel
theorem dX7_rule_145 : decode cX7_rule 145 = .ok (.aload_n 0, 1) := by decide +kernel
theorem dX7_rule_146 : decode cX7_rule 146 = .ok (.dup, 1) := by decide +kernel
theorem dX7_rule_147 : decode cX7_rule 147 = .ok (.getfield 96, 3) := by decide +kernel
theorem dX7_rule_150 : decode cX7_rule 150 = .ok (.iconst 1, 1) := by decide +kernel
theorem dX7_rule_151 : decode cX7_rule 151 = .ok (.iadd, 1) := by decide +kernel
theorem dX7_rule_152 : decode cX7_rule 152 = .ok (.putfield 96, 3) := by decide +kernel
theorem dX7_rule_155 : decode cX7_rule 155 = .ok (.aload_n 0, 1) := by decide +kernel
theorem dX7_rule_156 : decode cX7_rule 156 = .ok (.getfield 96, 3) := by decide +kernel
theorem dX7_rule_159 : decode cX7_rule 159 = .ok (.iconst 1, 1) := by decide +kernel
theorem dX7_rule_160 : decode cX7_rule 160 = .ok (.isub, 1) := by decide +kernel
theorem dX7_rule_161 : decode cX7_rule 161 = .ok (.ireturn, 1) := by decide +kernel
theorem dX7_isRule_0 : decode cX7_isRule 0 = .ok (.iload_n 1, 1) := by decide +kernel
theorem dX7_isRule_1 : decode cX7_isRule 1 = .ok (.iconst 0, 1) := by decide +kernel
theorem dX7_isRule_2 : decode cX7_isRule 2 = .ok (.aload_n 0, 1) := by decide +kernel
theorem dX7_isRule_3 : decode cX7_isRule 3 = .ok (.getfield 96, 3) := by decide +kernel
theorem dX7_isRule_6 : decode cX7_isRule 6 = .ok (.iconst 1, 1) := by decide +kernel
theorem dX7_isRule_7 : decode cX7_isRule 7 = .ok (.isub, 1) := by decide +kernel
theorem dX7_isRule_8 : decode cX7_isRule 8 = .ok (.invokestatic 85, 3) := by decide +kernel
theorem dX7_isRule_11 : decode cX7_isRule 11 = .ok (.ireturn, 1) := by decide +kernel
theorem dX7_forget_0 : decode cX7_forget 0 = .ok (.aload_n 0, 1) := by decide +kernel
theorem dX7_forget_1 : decode cX7_forget 1 = .ok (.iload_n 1, 1) := by decide +kernel
theorem dX7_forget_2 : decode cX7_forget 2 = .ok (.invokevirtual 113, 3) := by decide +kernel
theorem dX7_forget_5 : decode cX7_forget 5 = .ok (.ifCond .eq 11, 3) := by decide +kernel
theorem dX7_forget_8 : decode cX7_forget 8 = .ok (.aload_n 0, 1) := by decide +kernel
theorem dX7_forget_9 : decode cX7_forget 9 = .ok (.iload_n 2, 1) := by decide +kernel
theorem dX7_forget_10 : decode cX7_forget 10 = .ok (.invokevirtual 117, 3) := by decide +kernel
theorem dX7_forget_13 : decode cX7_forget 13 = .ok (.ifCond .ne 5, 3) := by decide +kernel
theorem dX7_forget_16 : decode cX7_forget 16 = .ok (.iconst (-1), 1) := by decide +kernel
theorem dX7_forget_17 : decode cX7_forget 17 = .ok (.ireturn, 1) := by decide +kernel
theorem dX7_forget_18 : decode cX7_forget 18 = .ok (.aload_n 0, 1) := by decide +kernel
theorem dX7_forget_19 : decode cX7_forget 19 = .ok (.getfield 36, 3) := by decide +kernel
theorem dX7_forget_22 : decode cX7_forget 22 = .ok (.bipush 12, 2) := by decide +kernel
theorem dX7_forget_24 : decode cX7_forget 24 = .ok (.iload_n 1, 1) := by decide +kernel
theorem dX7_forget_25 : decode cX7_forget 25 = .ok (.imul, 1) := by decide +kernel
theorem dX7_forget_26 : decode cX7_forget 26 = .ok (.iload_n 2, 1) := by decide +kernel
theorem dX7_forget_27 : decode cX7_forget 27 = .ok (.iadd, 1) := by decide +kernel
theorem dX7_forget_28 : decode cX7_forget 28 = .ok (.baload, 1) := by decide +kernel
theorem dX7_forget_29 : decode cX7_forget 29 = .ok (.istore 4, 2) := by decide +kernel
theorem dX7_forget_31 : decode cX7_forget 31 = .ok (.aload_n 0, 1) := by decide +kernel
theorem dX7_forget_32 : decode cX7_forget 32 = .ok (.getfield 36, 3) := by decide +kernel
theorem dX7_forget_35 : decode cX7_forget 35 = .ok (.bipush 12, 2) := by decide +kernel
theorem dX7_forget_37 : decode cX7_forget 37 = .ok (.iload_n 1, 1) := by decide +kernel
theorem dX7_forget_38 : decode cX7_forget 38 = .ok (.imul, 1) := by decide +kernel
theorem dX7_forget_39 : decode cX7_forget 39 = .ok (.iload_n 2, 1) := by decide +kernel
theorem dX7_forget_40 : decode cX7_forget 40 = .ok (.iadd, 1) := by decide +kernel
theorem dX7_forget_41 : decode cX7_forget 41 = .ok (.iload_n 3, 1) := by decide +kernel
theorem dX7_forget_42 : decode cX7_forget 42 = .ok (.bastore, 1) := by decide +kernel
theorem dX7_forget_43 : decode cX7_forget 43 = .ok (.iload 4, 2) := by decide +kernel
theorem dX7_forget_45 : decode cX7_forget 45 = .ok (.ifCond .eq 7, 3) := by decide +kernel
theorem dX7_forget_48 : decode cX7_forget 48 = .ok (.iconst 1, 1) := by decide +kernel
theorem dX7_forget_49 : decode cX7_forget 49 = .ok (.goto 4, 3) := by decide +kernel
theorem dX7_forget_52 : decode cX7_forget 52 = .ok (.iconst 0, 1) := by decide +kernel
theorem dX7_forget_53 : decode cX7_forget 53 = .ok (.ireturn, 1) := by decide +kernel
theorem dX7_fork_0 : decode cX7_fork 0 = .ok (.aload_n 0, 1) := by decide +kernel
theorem dX7_fork_1 : decode cX7_fork 1 = .ok (.iload_n 1, 1) := by decide +kernel
theorem dX7_fork_2 : decode cX7_fork 2 = .ok (.invokevirtual 113, 3) := by decide +kernel
theorem dX7_fork_5 : decode cX7_fork 5 = .ok (.ifCond .ne 5, 3) := by decide +kernel
theorem dX7_fork_8 : decode cX7_fork 8 = .ok (.iconst (-1), 1) := by decide +kernel
theorem dX7_fork_9 : decode cX7_fork 9 = .ok (.ireturn, 1) := by decide +kernel
theorem dX7_fork_10 : decode cX7_fork 10 = .ok (.aload_n 0, 1) := by decide +kernel
theorem dX7_fork_11 : decode cX7_fork 11 = .ok (.getfield 25, 3) := by decide +kernel
theorem dX7_fork_14 : decode cX7_fork 14 = .ok (.iconst 4, 1) := by decide +kernel
theorem dX7_fork_15 : decode cX7_fork 15 = .ok (.if_icmp .ne 6, 3) := by decide +kernel
theorem dX7_fork_18 : decode cX7_fork 18 = .ok (.bipush (-4), 2) := by decide +kernel
theorem dX7_fork_20 : decode cX7_fork 20 = .ok (.ireturn, 1) := by decide +kernel
theorem dX7_fork_21 : decode cX7_fork 21 = .ok (.iconst 0, 1) := by decide +kernel
theorem dX7_fork_22 : decode cX7_fork 22 = .ok (.istore_n 2, 1) := by decide +kernel
theorem dX7_fork_23 : decode cX7_fork 23 = .ok (.iload_n 2, 1) := by decide +kernel
theorem dX7_fork_24 : decode cX7_fork 24 = .ok (.sipush 160, 3) := by decide +kernel
theorem dX7_fork_27 : decode cX7_fork 27 = .ok (.if_icmp .ge 36, 3) := by decide +kernel
theorem dX7_fork_30 : decode cX7_fork 30 = .ok (.aload_n 0, 1) := by decide +kernel
theorem dX7_fork_31 : decode cX7_fork 31 = .ok (.getfield 29, 3) := by decide +kernel
theorem dX7_fork_34 : decode cX7_fork 34 = .ok (.sipush 160, 3) := by decide +kernel
theorem dX7_fork_37 : decode cX7_fork 37 = .ok (.aload_n 0, 1) := by decide +kernel
theorem dX7_fork_38 : decode cX7_fork 38 = .ok (.getfield 25, 3) := by decide +kernel
theorem dX7_fork_41 : decode cX7_fork 41 = .ok (.imul, 1) := by decide +kernel
theorem dX7_fork_42 : decode cX7_fork 42 = .ok (.iload_n 2, 1) := by decide +kernel
theorem dX7_fork_43 : decode cX7_fork 43 = .ok (.iadd, 1) := by decide +kernel
theorem dX7_fork_44 : decode cX7_fork 44 = .ok (.aload_n 0, 1) := by decide +kernel
theorem dX7_fork_45 : decode cX7_fork 45 = .ok (.getfield 29, 3) := by decide +kernel
theorem dX7_fork_48 : decode cX7_fork 48 = .ok (.sipush 160, 3) := by decide +kernel
theorem dX7_fork_51 : decode cX7_fork 51 = .ok (.iload_n 1, 1) := by decide +kernel
theorem dX7_fork_52 : decode cX7_fork 52 = .ok (.imul, 1) := by decide +kernel
theorem dX7_fork_53 : decode cX7_fork 53 = .ok (.iload_n 2, 1) := by decide +kernel
theorem dX7_fork_54 : decode cX7_fork 54 = .ok (.iadd, 1) := by decide +kernel
theorem dX7_fork_55 : decode cX7_fork 55 = .ok (.iaload, 1) := by decide +kernel
theorem dX7_fork_56 : decode cX7_fork 56 = .ok (.iastore, 1) := by decide +kernel
theorem dX7_fork_57 : decode cX7_fork 57 = .ok (.iinc 2 1, 3) := by decide +kernel
theorem dX7_fork_60 : decode cX7_fork 60 = .ok (.goto (-37), 3) := by decide +kernel
theorem dX7_fork_63 : decode cX7_fork 63 = .ok (.iconst 0, 1) := by decide +kernel
theorem dX7_fork_64 : decode cX7_fork 64 = .ok (.istore_n 2, 1) := by decide +kernel
theorem dX7_fork_65 : decode cX7_fork 65 = .ok (.iload_n 2, 1) := by decide +kernel
theorem dX7_fork_66 : decode cX7_fork 66 = .ok (.bipush 12, 2) := by decide +kernel
theorem dX7_fork_68 : decode cX7_fork 68 = .ok (.if_icmp .ge 59, 3) := by decide +kernel
theorem dX7_fork_71 : decode cX7_fork 71 = .ok (.aload_n 0, 1) := by decide +kernel
theorem dX7_fork_72 : decode cX7_fork 72 = .ok (.getfield 32, 3) := by decide +kernel
theorem dX7_fork_75 : decode cX7_fork 75 = .ok (.bipush 12, 2) := by decide +kernel
theorem dX7_fork_77 : decode cX7_fork 77 = .ok (.aload_n 0, 1) := by decide +kernel
theorem dX7_fork_78 : decode cX7_fork 78 = .ok (.getfield 25, 3) := by decide +kernel
theorem dX7_fork_81 : decode cX7_fork 81 = .ok (.imul, 1) := by decide +kernel
theorem dX7_fork_82 : decode cX7_fork 82 = .ok (.iload_n 2, 1) := by decide +kernel
theorem dX7_fork_83 : decode cX7_fork 83 = .ok (.iadd, 1) := by decide +kernel
theorem dX7_fork_84 : decode cX7_fork 84 = .ok (.aload_n 0, 1) := by decide +kernel
theorem dX7_fork_85 : decode cX7_fork 85 = .ok (.getfield 32, 3) := by decide +kernel
theorem dX7_fork_88 : decode cX7_fork 88 = .ok (.bipush 12, 2) := by decide +kernel
theorem dX7_fork_90 : decode cX7_fork 90 = .ok (.iload_n 1, 1) := by decide +kernel
theorem dX7_fork_91 : decode cX7_fork 91 = .ok (.imul, 1) := by decide +kernel
theorem dX7_fork_92 : decode cX7_fork 92 = .ok (.iload_n 2, 1) := by decide +kernel
theorem dX7_fork_93 : decode cX7_fork 93 = .ok (.iadd, 1) := by decide +kernel
theorem dX7_fork_94 : decode cX7_fork 94 = .ok (.laload, 1) := by decide +kernel
theorem dX7_fork_95 : decode cX7_fork 95 = .ok (.lastore, 1) := by decide +kernel
theorem dX7_fork_96 : decode cX7_fork 96 = .ok (.aload_n 0, 1) := by decide +kernel
theorem dX7_fork_97 : decode cX7_fork 97 = .ok (.getfield 36, 3) := by decide +kernel
theorem dX7_fork_100 : decode cX7_fork 100 = .ok (.bipush 12, 2) := by decide +kernel
theorem dX7_fork_102 : decode cX7_fork 102 = .ok (.aload_n 0, 1) := by decide +kernel
theorem dX7_fork_103 : decode cX7_fork 103 = .ok (.getfield 25, 3) := by decide +kernel
theorem dX7_fork_106 : decode cX7_fork 106 = .ok (.imul, 1) := by decide +kernel
theorem dX7_fork_107 : decode cX7_fork 107 = .ok (.iload_n 2, 1) := by decide +kernel
theorem dX7_fork_108 : decode cX7_fork 108 = .ok (.iadd, 1) := by decide +kernel
theorem dX7_fork_109 : decode cX7_fork 109 = .ok (.aload_n 0, 1) := by decide +kernel
theorem dX7_fork_110 : decode cX7_fork 110 = .ok (.getfield 36, 3) := by decide +kernel
theorem dX7_fork_113 : decode cX7_fork 113 = .ok (.bipush 12, 2) := by decide +kernel
theorem dX7_fork_115 : decode cX7_fork 115 = .ok (.iload_n 1, 1) := by decide +kernel
theorem dX7_fork_116 : decode cX7_fork 116 = .ok (.imul, 1) := by decide +kernel
theorem dX7_fork_117 : decode cX7_fork 117 = .ok (.iload_n 2, 1) := by decide +kernel
theorem dX7_fork_118 : decode cX7_fork 118 = .ok (.iadd, 1) := by decide +kernel
theorem dX7_fork_119 : decode cX7_fork 119 = .ok (.baload, 1) := by decide +kernel
theorem dX7_fork_120 : decode cX7_fork 120 = .ok (.bastore, 1) := by decide +kernel
theorem dX7_fork_121 : decode cX7_fork 121 = .ok (.iinc 2 1, 3) := by decide +kernel
theorem dX7_fork_124 : decode cX7_fork 124 = .ok (.goto (-59), 3) := by decide +kernel
theorem dX7_fork_127 : decode cX7_fork 127 = .ok (.aload_n 0, 1) := by decide +kernel
theorem dX7_fork_128 : decode cX7_fork 128 = .ok (.dup, 1) := by decide +kernel
theorem dX7_fork_129 : decode cX7_fork 129 = .ok (.getfield 25, 3) := by decide +kernel
theorem dX7_fork_132 : decode cX7_fork 132 = .ok (.iconst 1, 1) := by decide +kernel
theorem dX7_fork_133 : decode cX7_fork 133 = .ok (.iadd, 1) := by decide +kernel
theorem dX7_fork_134 : decode cX7_fork 134 = .ok (.putfield 25, 3) := by decide +kernel
theorem dX7_fork_137 : decode cX7_fork 137 = .ok (.aload_n 0, 1) := by decide +kernel
theorem dX7_fork_138 : decode cX7_fork 138 = .ok (.getfield 25, 3) := by decide +kernel
theorem dX7_fork_141 : decode cX7_fork 141 = .ok (.iconst 1, 1) := by decide +kernel
theorem dX7_fork_142 : decode cX7_fork 142 = .ok (.isub, 1) := by decide +kernel
theorem dX7_fork_143 : decode cX7_fork 143 = .ok (.ireturn, 1) := by decide +kernel
theorem dX7_isFit_0 : decode cX7_isFit 0 = .ok (.iload_n 2, 1) := by decide +kernel
theorem dX7_isFit_1 : decode cX7_isFit 1 = .ok (.iconst 0, 1) := by decide +kernel
theorem dX7_isFit_2 : decode cX7_isFit 2 = .ok (.aload_n 0, 1) := by decide +kernel
theorem dX7_isFit_3 : decode cX7_isFit 3 = .ok (.getfield 89, 3) := by decide +kernel
theorem dX7_isFit_6 : decode cX7_isFit 6 = .ok (.iconst 1, 1) := by decide +kernel
theorem dX7_isFit_7 : decode cX7_isFit 7 = .ok (.isub, 1) := by decide +kernel
theorem dX7_isFit_8 : decode cX7_isFit 8 = .ok (.invokestatic 85, 3) := by decide +kernel
theorem dX7_isFit_11 : decode cX7_isFit 11 = .ok (.ifCond .eq 12, 3) := by decide +kernel
theorem dX7_isFit_14 : decode cX7_isFit 14 = .ok (.iload_n 3, 1) := by decide +kernel
theorem dX7_isFit_15 : decode cX7_isFit 15 = .ok (.iconst 0, 1) := by decide +kernel
theorem dX7_isFit_16 : decode cX7_isFit 16 = .ok (.iconst 2, 1) := by decide +kernel
theorem dX7_isFit_17 : decode cX7_isFit 17 = .ok (.invokestatic 85, 3) := by decide +kernel
theorem dX7_isFit_20 : decode cX7_isFit 20 = .ok (.ifCond .ne 5, 3) := by decide +kernel
theorem dX7_isFit_23 : decode cX7_isFit 23 = .ok (.iconst 0, 1) := by decide +kernel
theorem dX7_isFit_24 : decode cX7_isFit 24 = .ok (.ireturn, 1) := by decide +kernel
theorem dX7_isFit_25 : decode cX7_isFit 25 = .ok (.iload_n 3, 1) := by decide +kernel
theorem dX7_isFit_26 : decode cX7_isFit 26 = .ok (.iconst 2, 1) := by decide +kernel
theorem dX7_isFit_27 : decode cX7_isFit 27 = .ok (.if_icmp .ge 30, 3) := by decide +kernel
theorem dX7_isFit_30 : decode cX7_isFit 30 = .ok (.iload_n 3, 1) := by decide +kernel
theorem dX7_isFit_31 : decode cX7_isFit 31 = .ok (.ifCond .ne 17, 3) := by decide +kernel
theorem dX7_isFit_34 : decode cX7_isFit 34 = .ok (.iload 4, 2) := by decide +kernel
theorem dX7_isFit_36 : decode cX7_isFit 36 = .ok (.sipush (-1000), 3) := by decide +kernel
theorem dX7_isFit_39 : decode cX7_isFit 39 = .ok (.sipush 1000, 3) := by decide +kernel
theorem dX7_isFit_42 : decode cX7_isFit 42 = .ok (.invokestatic 85, 3) := by decide +kernel
theorem dX7_isFit_45 : decode cX7_isFit 45 = .ok (.goto 11, 3) := by decide +kernel
theorem dX7_isFit_48 : decode cX7_isFit 48 = .ok (.iload 4, 2) := by decide +kernel
theorem dX7_isFit_50 : decode cX7_isFit 50 = .ok (.iconst 0, 1) := by decide +kernel
theorem dX7_isFit_51 : decode cX7_isFit 51 = .ok (.bipush 20, 2) := by decide +kernel
theorem dX7_isFit_53 : decode cX7_isFit 53 = .ok (.invokestatic 85, 3) := by decide +kernel
theorem dX7_isFit_56 : decode cX7_isFit 56 = .ok (.ireturn, 1) := by decide +kernel
theorem dX7_isFit_57 : decode cX7_isFit 57 = .ok (.iload 4, 2) := by decide +kernel
theorem dX7_isFit_59 : decode cX7_isFit 59 = .ok (.iconst (-1), 1) := by decide +kernel
theorem dX7_isFit_60 : decode cX7_isFit 60 = .ok (.aload_n 0, 1) := by decide +kernel
theorem dX7_isFit_61 : decode cX7_isFit 61 = .ok (.getfield 89, 3) := by decide +kernel
theorem dX7_isFit_64 : decode cX7_isFit 64 = .ok (.iconst 1, 1) := by decide +kernel
