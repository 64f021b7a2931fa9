/-! ### the model: rings -/
theorem d_MO_ringPlace_0 : decode b_MO_ringPlace 0 = .ok (.aload_n 0, 1) := by decide +kernel
theorem d_MO_ringPlace_1 : decode b_MO_ringPlace 1 = .ok (.getfield 30, 3) := by decide +kernel
theorem d_MO_ringPlace_4 : decode b_MO_ringPlace 4 = .ok (.iload_n 1, 1) := by decide +kernel
theorem d_MO_ringPlace_5 : decode b_MO_ringPlace 5 = .ok (.iaload, 1) := by decide +kernel
theorem d_MO_ringPlace_6 : decode b_MO_ringPlace 6 = .ok (.lload_n 2, 1) := by decide +kernel
theorem d_MO_ringPlace_7 : decode b_MO_ringPlace 7 = .ok (.aload_n 0, 1) := by decide +kernel
theorem d_MO_ringPlace_8 : decode b_MO_ringPlace 8 = .ok (.getfield 27, 3) := by decide +kernel
theorem d_MO_ringPlace_11 : decode b_MO_ringPlace 11 = .ok (.iload_n 1, 1) := by decide +kernel
theorem d_MO_ringPlace_12 : decode b_MO_ringPlace 12 = .ok (.iaload, 1) := by decide +kernel
theorem d_MO_ringPlace_13 : decode b_MO_ringPlace 13 = .ok (.i2l, 1) := by decide +kernel
theorem d_MO_ringPlace_14 : decode b_MO_ringPlace 14 = .ok (.lrem, 1) := by decide +kernel
theorem d_MO_ringPlace_15 : decode b_MO_ringPlace 15 = .ok (.l2i, 1) := by decide +kernel
theorem d_MO_ringPlace_16 : decode b_MO_ringPlace 16 = .ok (.iadd, 1) := by decide +kernel
theorem d_MO_ringPlace_17 : decode b_MO_ringPlace 17 = .ok (.ireturn, 1) := by decide +kernel
theorem d_MO_putRing_0 : decode b_MO_putRing 0 = .ok (.aload_n 0, 1) := by decide +kernel
theorem d_MO_putRing_1 : decode b_MO_putRing 1 = .ok (.getfield 14, 3) := by decide +kernel
theorem d_MO_putRing_4 : decode b_MO_putRing 4 = .ok (.aload_n 0, 1) := by decide +kernel
theorem d_MO_putRing_5 : decode b_MO_putRing 5 = .ok (.iload_n 1, 1) := by decide +kernel
theorem d_MO_putRing_6 : decode b_MO_putRing 6 = .ok (.lload_n 2, 1) := by decide +kernel
theorem d_MO_putRing_7 : decode b_MO_putRing 7 = .ok (.invokevirtual 139, 3) := by decide +kernel
theorem d_MO_putRing_10 : decode b_MO_putRing 10 = .ok (.iload 4, 2) := by decide +kernel
theorem d_MO_putRing_12 : decode b_MO_putRing 12 = .ok (.i2b, 1) := by decide +kernel
theorem d_MO_putRing_13 : decode b_MO_putRing 13 = .ok (.bastore, 1) := by decide +kernel
theorem d_MO_putRing_14 : decode b_MO_putRing 14 = .ok (.return_, 1) := by decide +kernel
theorem d_MO_numberInRing_0 : decode b_MO_numberInRing 0 = .ok (.lconst 0, 1) := by decide +kernel
theorem d_MO_numberInRing_1 : decode b_MO_numberInRing 1 = .ok (.lstore 4, 2) := by decide +kernel
theorem d_MO_numberInRing_3 : decode b_MO_numberInRing 3 = .ok (.iconst 3, 1) := by decide +kernel
theorem d_MO_numberInRing_4 : decode b_MO_numberInRing 4 = .ok (.istore 6, 2) := by decide +kernel
theorem d_MO_numberInRing_6 : decode b_MO_numberInRing 6 = .ok (.iload 6, 2) := by decide +kernel
theorem d_MO_numberInRing_8 : decode b_MO_numberInRing 8 = .ok (.ifCond .lt 38, 3) := by decide +kernel
theorem d_MO_numberInRing_11 : decode b_MO_numberInRing 11 = .ok (.ldc2_w 95, 3) := by decide +kernel
theorem d_MO_numberInRing_14 : decode b_MO_numberInRing 14 = .ok (.lload 4, 2) := by decide +kernel
theorem d_MO_numberInRing_16 : decode b_MO_numberInRing 16 = .ok (.lmul, 1) := by decide +kernel
theorem d_MO_numberInRing_17 : decode b_MO_numberInRing 17 = .ok (.aload_n 0, 1) := by decide +kernel
theorem d_MO_numberInRing_18 : decode b_MO_numberInRing 18 = .ok (.getfield 14, 3) := by decide +kernel
theorem d_MO_numberInRing_21 : decode b_MO_numberInRing 21 = .ok (.aload_n 0, 1) := by decide +kernel
theorem d_MO_numberInRing_22 : decode b_MO_numberInRing 22 = .ok (.iload_n 1, 1) := by decide +kernel
theorem d_MO_numberInRing_23 : decode b_MO_numberInRing 23 = .ok (.lload_n 2, 1) := by decide +kernel
theorem d_MO_numberInRing_24 : decode b_MO_numberInRing 24 = .ok (.iload 6, 2) := by decide +kernel
theorem d_MO_numberInRing_26 : decode b_MO_numberInRing 26 = .ok (.i2l, 1) := by decide +kernel
theorem d_MO_numberInRing_27 : decode b_MO_numberInRing 27 = .ok (.ladd, 1) := by decide +kernel
theorem d_MO_numberInRing_28 : decode b_MO_numberInRing 28 = .ok (.invokevirtual 139, 3) := by decide +kernel
theorem d_MO_numberInRing_31 : decode b_MO_numberInRing 31 = .ok (.baload, 1) := by decide +kernel
theorem d_MO_numberInRing_32 : decode b_MO_numberInRing 32 = .ok (.sipush 255, 3) := by decide +kernel
theorem d_MO_numberInRing_35 : decode b_MO_numberInRing 35 = .ok (.iand, 1) := by decide +kernel
theorem d_MO_numberInRing_36 : decode b_MO_numberInRing 36 = .ok (.i2l, 1) := by decide +kernel
theorem d_MO_numberInRing_37 : decode b_MO_numberInRing 37 = .ok (.ladd, 1) := by decide +kernel
theorem d_MO_numberInRing_38 : decode b_MO_numberInRing 38 = .ok (.lstore 4, 2) := by decide +kernel
theorem d_MO_numberInRing_40 : decode b_MO_numberInRing 40 = .ok (.iinc 6 (-1), 3) := by decide +kernel
theorem d_MO_numberInRing_43 : decode b_MO_numberInRing 43 = .ok (.goto (-37), 3) := by decide +kernel
theorem d_MO_numberInRing_46 : decode b_MO_numberInRing 46 = .ok (.lload 4, 2) := by decide +kernel
theorem d_MO_numberInRing_48 : decode b_MO_numberInRing 48 = .ok (.lreturn, 1) := by decide +kernel
theorem d_MO_put_0 : decode b_MO_put 0 = .ok (.aload_n 0, 1) := by decide +kernel
theorem d_MO_put_1 : decode b_MO_put 1 = .ok (.iload_n 1, 1) := by decide +kernel
theorem d_MO_put_2 : decode b_MO_put 2 = .ok (.invokevirtual 92, 3) := by decide +kernel
theorem d_MO_put_5 : decode b_MO_put 5 = .ok (.ifCond .eq 5, 3) := by decide +kernel
theorem d_MO_put_8 : decode b_MO_put 8 = .ok (.iconst 0, 1) := by decide +kernel
theorem d_MO_put_9 : decode b_MO_put 9 = .ok (.ireturn, 1) := by decide +kernel
theorem d_MO_put_10 : decode b_MO_put 10 = .ok (.aload_n 0, 1) := by decide +kernel
theorem d_MO_put_11 : decode b_MO_put 11 = .ok (.getfield 17, 3) := by decide +kernel
theorem d_MO_put_14 : decode b_MO_put 14 = .ok (.iload_n 1, 1) := by decide +kernel
theorem d_MO_put_15 : decode b_MO_put 15 = .ok (.iaload, 1) := by decide +kernel
theorem d_MO_put_16 : decode b_MO_put 16 = .ok (.iconst 2, 1) := by decide +kernel
theorem d_MO_put_17 : decode b_MO_put 17 = .ok (.if_icmp .ne 14, 3) := by decide +kernel
theorem d_MO_put_20 : decode b_MO_put 20 = .ok (.iload_n 3, 1) := by decide +kernel
theorem d_MO_put_21 : decode b_MO_put 21 = .ok (.iconst 1, 1) := by decide +kernel
theorem d_MO_put_22 : decode b_MO_put 22 = .ok (.sipush 256, 3) := by decide +kernel
theorem d_MO_put_25 : decode b_MO_put 25 = .ok (.invokestatic 64, 3) := by decide +kernel
theorem d_MO_put_28 : decode b_MO_put 28 = .ok (.ifCond .ne 6, 3) := by decide +kernel
theorem d_MO_put_31 : decode b_MO_put 31 = .ok (.bipush (-22), 2) := by decide +kernel
theorem d_MO_put_33 : decode b_MO_put 33 = .ok (.ireturn, 1) := by decide +kernel
theorem d_MO_put_34 : decode b_MO_put 34 = .ok (.aload_n 0, 1) := by decide +kernel
theorem d_MO_put_35 : decode b_MO_put 35 = .ok (.iload_n 2, 1) := by decide +kernel
theorem d_MO_put_36 : decode b_MO_put 36 = .ok (.iload_n 3, 1) := by decide +kernel
theorem d_MO_put_37 : decode b_MO_put 37 = .ok (.invokestatic 97, 3) := by decide +kernel
theorem d_MO_put_40 : decode b_MO_put 40 = .ok (.ifCond .eq 7, 3) := by decide +kernel
theorem d_MO_put_43 : decode b_MO_put 43 = .ok (.iconst 0, 1) := by decide +kernel
theorem d_MO_put_44 : decode b_MO_put 44 = .ok (.goto 4, 3) := by decide +kernel
theorem d_MO_put_47 : decode b_MO_put 47 = .ok (.iconst 1, 1) := by decide +kernel
theorem d_MO_put_48 : decode b_MO_put 48 = .ok (.putfield 60, 3) := by decide +kernel
theorem d_MO_put_51 : decode b_MO_put 51 = .ok (.aload_n 0, 1) := by decide +kernel
theorem d_MO_put_52 : decode b_MO_put 52 = .ok (.getfield 60, 3) := by decide +kernel
theorem d_MO_put_55 : decode b_MO_put 55 = .ok (.ifCond .le 5, 3) := by decide +kernel
theorem d_MO_put_58 : decode b_MO_put 58 = .ok (.iconst 0, 1) := by decide +kernel
theorem d_MO_put_59 : decode b_MO_put 59 = .ok (.ireturn, 1) := by decide +kernel
theorem d_MO_put_60 : decode b_MO_put 60 = .ok (.aload_n 0, 1) := by decide +kernel
theorem d_MO_put_61 : decode b_MO_put 61 = .ok (.getfield 57, 3) := by decide +kernel
theorem d_MO_put_64 : decode b_MO_put 64 = .ok (.iload_n 1, 1) := by decide +kernel
theorem d_MO_put_65 : decode b_MO_put 65 = .ok (.baload, 1) := by decide +kernel
theorem d_MO_put_66 : decode b_MO_put 66 = .ok (.ifCond .eq 6, 3) := by decide +kernel
theorem d_MO_put_69 : decode b_MO_put 69 = .ok (.bipush (-22), 2) := by decide +kernel
theorem d_MO_put_71 : decode b_MO_put 71 = .ok (.ireturn, 1) := by decide +kernel
theorem d_MO_put_72 : decode b_MO_put 72 = .ok (.bipush 8, 2) := by decide +kernel
theorem d_MO_put_74 : decode b_MO_put 74 = .ok (.iload_n 3, 1) := by decide +kernel
theorem d_MO_put_75 : decode b_MO_put 75 = .ok (.invokestatic 76, 3) := by decide +kernel
theorem d_MO_put_78 : decode b_MO_put 78 = .ok (.iadd, 1) := by decide +kernel
theorem d_MO_put_79 : decode b_MO_put 79 = .ok (.istore 4, 2) := by decide +kernel
theorem d_MO_put_81 : decode b_MO_put 81 = .ok (.aload_n 0, 1) := by decide +kernel
theorem d_MO_put_82 : decode b_MO_put 82 = .ok (.getfield 47, 3) := by decide +kernel
theorem d_MO_put_85 : decode b_MO_put 85 = .ok (.iload_n 1, 1) := by decide +kernel
theorem d_MO_put_86 : decode b_MO_put 86 = .ok (.laload, 1) := by decide +kernel
theorem d_MO_put_87 : decode b_MO_put 87 = .ok (.aload_n 0, 1) := by decide +kernel
theorem d_MO_put_88 : decode b_MO_put 88 = .ok (.getfield 51, 3) := by decide +kernel
theorem d_MO_put_91 : decode b_MO_put 91 = .ok (.iload_n 1, 1) := by decide +kernel
theorem d_MO_put_92 : decode b_MO_put 92 = .ok (.laload, 1) := by decide +kernel
theorem d_MO_put_93 : decode b_MO_put 93 = .ok (.lsub, 1) := by decide +kernel
theorem d_MO_put_94 : decode b_MO_put 94 = .ok (.iload 4, 2) := by decide +kernel
theorem d_MO_put_96 : decode b_MO_put 96 = .ok (.i2l, 1) := by decide +kernel
theorem d_MO_put_97 : decode b_MO_put 97 = .ok (.ladd, 1) := by decide +kernel
theorem d_MO_put_98 : decode b_MO_put 98 = .ok (.aload_n 0, 1) := by decide +kernel
theorem d_MO_put_99 : decode b_MO_put 99 = .ok (.getfield 27, 3) := by decide +kernel
theorem d_MO_put_102 : decode b_MO_put 102 = .ok (.iload_n 1, 1) := by decide +kernel
theorem d_MO_put_103 : decode b_MO_put 103 = .ok (.iaload, 1) := by decide +kernel
theorem d_MO_put_104 : decode b_MO_put 104 = .ok (.i2l, 1) := by decide +kernel
theorem d_MO_put_105 : decode b_MO_put 105 = .ok (.lcmp, 1) := by decide +kernel
theorem d_MO_put_106 : decode b_MO_put 106 = .ok (.ifCond .le 6, 3) := by decide +kernel
theorem d_MO_put_109 : decode b_MO_put 109 = .ok (.bipush (-11), 2) := by decide +kernel
theorem d_MO_put_111 : decode b_MO_put 111 = .ok (.ireturn, 1) := by decide +kernel
theorem d_MO_put_112 : decode b_MO_put 112 = .ok (.iconst 0, 1) := by decide +kernel
theorem d_MO_put_113 : decode b_MO_put 113 = .ok (.istore 5, 2) := by decide +kernel
theorem d_MO_put_115 : decode b_MO_put 115 = .ok (.iload 5, 2) := by decide +kernel
theorem d_MO_put_117 : decode b_MO_put 117 = .ok (.iload 4, 2) := by decide +kernel
theorem d_MO_put_119 : decode b_MO_put 119 = .ok (.if_icmp .ge 93, 3) := by decide +kernel
theorem d_MO_put_122 : decode b_MO_put 122 = .ok (.iload 5, 2) := by decide +kernel
theorem d_MO_put_124 : decode b_MO_put 124 = .ok (.iconst 4, 1) := by decide +kernel
theorem d_MO_put_125 : decode b_MO_put 125 = .ok (.if_icmp .ge 13, 3) := by decide +kernel
theorem d_MO_put_128 : decode b_MO_put 128 = .ok (.iload_n 3, 1) := by decide +kernel
theorem d_MO_put_129 : decode b_MO_put 129 = .ok (.bipush 8, 2) := by decide +kernel
theorem d_MO_put_131 : decode b_MO_put 131 = .ok (.iload 5, 2) := by decide +kernel
theorem d_MO_put_133 : decode b_MO_put 133 = .ok (.imul, 1) := by decide +kernel
theorem d_MO_put_134 : decode b_MO_put 134 = .ok (.ishr, 1) := by decide +kernel
theorem d_MO_put_135 : decode b_MO_put 135 = .ok (.goto 52, 3) := by decide +kernel
theorem d_MO_put_138 : decode b_MO_put 138 = .ok (.iload 5, 2) := by decide +kernel
theorem d_MO_put_140 : decode b_MO_put 140 = .ok (.bipush 8, 2) := by decide +kernel
theorem d_MO_put_142 : decode b_MO_put 142 = .ok (.if_icmp .ge 20, 3) := by decide +kernel
theorem d_MO_put_145 : decode b_MO_put 145 = .ok (.aload_n 0, 1) := by decide +kernel
theorem d_MO_put_146 : decode b_MO_put 146 = .ok (.getfield 54, 3) := by decide +kernel
theorem d_MO_put_149 : decode b_MO_put 149 = .ok (.iload_n 1, 1) := by decide +kernel
theorem d_MO_put_150 : decode b_MO_put 150 = .ok (.iaload, 1) := by decide +kernel
theorem d_MO_put_151 : decode b_MO_put 151 = .ok (.bipush 8, 2) := by decide +kernel
theorem d_MO_put_153 : decode b_MO_put 153 = .ok (.iload 5, 2) := by decide +kernel
theorem d_MO_put_155 : decode b_MO_put 155 = .ok (.iconst 4, 1) := by decide +kernel
theorem d_MO_put_156 : decode b_MO_put 156 = .ok (.isub, 1) := by decide +kernel
theorem d_MO_put_157 : decode b_MO_put 157 = .ok (.imul, 1) := by decide +kernel
theorem d_MO_put_158 : decode b_MO_put 158 = .ok (.ishr, 1) := by decide +kernel
theorem d_MO_put_159 : decode b_MO_put 159 = .ok (.goto 28, 3) := by decide +kernel
theorem d_MO_put_162 : decode b_MO_put 162 = .ok (.iload 5, 2) := by decide +kernel
theorem d_MO_put_164 : decode b_MO_put 164 = .ok (.bipush 8, 2) := by decide +kernel
theorem d_MO_put_166 : decode b_MO_put 166 = .ok (.iload_n 3, 1) := by decide +kernel
theorem d_MO_put_167 : decode b_MO_put 167 = .ok (.iadd, 1) := by decide +kernel
theorem d_MO_put_168 : decode b_MO_put 168 = .ok (.if_icmp .ge 18, 3) := by decide +kernel
theorem d_MO_put_171 : decode b_MO_put 171 = .ok (.aload_n 0, 1) := by decide +kernel
theorem d_MO_put_172 : decode b_MO_put 172 = .ok (.getfield 7, 3) := by decide +kernel
theorem d_MO_put_175 : decode b_MO_put 175 = .ok (.iload_n 2, 1) := by decide +kernel
theorem d_MO_put_176 : decode b_MO_put 176 = .ok (.iload 5, 2) := by decide +kernel
theorem d_MO_put_178 : decode b_MO_put 178 = .ok (.iadd, 1) := by decide +kernel
theorem d_MO_put_179 : decode b_MO_put 179 = .ok (.bipush 8, 2) := by decide +kernel
theorem d_MO_put_181 : decode b_MO_put 181 = .ok (.isub, 1) := by decide +kernel
theorem d_MO_put_182 : decode b_MO_put 182 = .ok (.baload, 1) := by decide +kernel
theorem d_MO_put_183 : decode b_MO_put 183 = .ok (.goto 4, 3) := by decide +kernel
theorem d_MO_put_186 : decode b_MO_put 186 = .ok (.iconst 0, 1) := by decide +kernel
theorem d_MO_put_187 : decode b_MO_put 187 = .ok (.istore 6, 2) := by decide +kernel
theorem d_MO_put_189 : decode b_MO_put 189 = .ok (.aload_n 0, 1) := by decide +kernel
theorem d_MO_put_190 : decode b_MO_put 190 = .ok (.iload_n 1, 1) := by decide +kernel
theorem d_MO_put_191 : decode b_MO_put 191 = .ok (.aload_n 0, 1) := by decide +kernel
theorem d_MO_put_192 : decode b_MO_put 192 = .ok (.getfield 47, 3) := by decide +kernel
theorem d_MO_put_195 : decode b_MO_put 195 = .ok (.iload_n 1, 1) := by decide +kernel
theorem d_MO_put_196 : decode b_MO_put 196 = .ok (.laload, 1) := by decide +kernel
theorem d_MO_put_197 : decode b_MO_put 197 = .ok (.iload 5, 2) := by decide +kernel
theorem d_MO_put_199 : decode b_MO_put 199 = .ok (.i2l, 1) := by decide +kernel
theorem d_MO_put_200 : decode b_MO_put 200 = .ok (.ladd, 1) := by decide +kernel
theorem d_MO_put_201 : decode b_MO_put 201 = .ok (.iload 6, 2) := by decide +kernel
theorem d_MO_put_203 : decode b_MO_put 203 = .ok (.invokevirtual 143, 3) := by decide +kernel
theorem d_MO_put_206 : decode b_MO_put 206 = .ok (.iinc 5 1, 3) := by decide +kernel
theorem d_MO_put_209 : decode b_MO_put 209 = .ok (.goto (-94), 3) := by decide +kernel
theorem d_MO_put_212 : decode b_MO_put 212 = .ok (.aload_n 0, 1) := by decide +kernel
theorem d_MO_put_213 : decode b_MO_put 213 = .ok (.getfield 47, 3) := by decide +kernel
theorem d_MO_put_216 : decode b_MO_put 216 = .ok (.iload_n 1, 1) := by decide +kernel
theorem d_MO_put_217 : decode b_MO_put 217 = .ok (.dup2, 1) := by decide +kernel
theorem d_MO_put_218 : decode b_MO_put 218 = .ok (.laload, 1) := by decide +kernel
theorem d_MO_put_219 : decode b_MO_put 219 = .ok (.iload 4, 2) := by decide +kernel
theorem d_MO_put_221 : decode b_MO_put 221 = .ok (.i2l, 1) := by decide +kernel
theorem d_MO_put_222 : decode b_MO_put 222 = .ok (.ladd, 1) := by decide +kernel
theorem d_MO_put_223 : decode b_MO_put 223 = .ok (.lastore, 1) := by decide +kernel
theorem d_MO_put_224 : decode b_MO_put 224 = .ok (.aload_n 0, 1) := by decide +kernel
theorem d_MO_put_225 : decode b_MO_put 225 = .ok (.getfield 54, 3) := by decide +kernel
theorem d_MO_put_228 : decode b_MO_put 228 = .ok (.iload_n 1, 1) := by decide +kernel
theorem d_MO_put_229 : decode b_MO_put 229 = .ok (.dup2, 1) := by decide +kernel
theorem d_MO_put_230 : decode b_MO_put 230 = .ok (.iaload, 1) := by decide +kernel
theorem d_MO_put_231 : decode b_MO_put 231 = .ok (.iconst 1, 1) := by decide +kernel
theorem d_MO_put_232 : decode b_MO_put 232 = .ok (.iadd, 1) := by decide +kernel
theorem d_MO_put_233 : decode b_MO_put 233 = .ok (.iastore, 1) := by decide +kernel
theorem d_MO_put_234 : decode b_MO_put 234 = .ok (.iconst 0, 1) := by decide +kernel
theorem d_MO_put_235 : decode b_MO_put 235 = .ok (.ireturn, 1) := by decide +kernel
theorem d_MO_take_0 : decode b_MO_take 0 = .ok (.aload_n 0, 1) := by decide +kernel
theorem d_MO_take_1 : decode b_MO_take 1 = .ok (.iload_n 1, 1) := by decide +kernel
theorem d_MO_take_2 : decode b_MO_take 2 = .ok (.invokevirtual 92, 3) := by decide +kernel
theorem d_MO_take_5 : decode b_MO_take 5 = .ok (.ifCond .eq 5, 3) := by decide +kernel
theorem d_MO_take_8 : decode b_MO_take 8 = .ok (.iconst 0, 1) := by decide +kernel
theorem d_MO_take_9 : decode b_MO_take 9 = .ok (.ireturn, 1) := by decide +kernel
theorem d_MO_take_10 : decode b_MO_take 10 = .ok (.aload_n 0, 1) := by decide +kernel
theorem d_MO_take_11 : decode b_MO_take 11 = .ok (.getfield 17, 3) := by decide +kernel
theorem d_MO_take_14 : decode b_MO_take 14 = .ok (.iload_n 1, 1) := by decide +kernel
theorem d_MO_take_15 : decode b_MO_take 15 = .ok (.iaload, 1) := by decide +kernel
theorem d_MO_take_16 : decode b_MO_take 16 = .ok (.iconst 2, 1) := by decide +kernel
theorem d_MO_take_17 : decode b_MO_take 17 = .ok (.if_icmp .ne 12, 3) := by decide +kernel
theorem d_MO_take_20 : decode b_MO_take 20 = .ok (.aload_n 0, 1) := by decide +kernel
theorem d_MO_take_21 : decode b_MO_take 21 = .ok (.getfield 57, 3) := by decide +kernel
theorem d_MO_take_24 : decode b_MO_take 24 = .ok (.iload_n 1, 1) := by decide +kernel
theorem d_MO_take_25 : decode b_MO_take 25 = .ok (.baload, 1) := by decide +kernel
theorem d_MO_take_26 : decode b_MO_take 26 = .ok (.ifCond .eq 6, 3) := by decide +kernel
theorem d_MO_take_29 : decode b_MO_take 29 = .ok (.bipush (-22), 2) := by decide +kernel
theorem d_MO_take_31 : decode b_MO_take 31 = .ok (.ireturn, 1) := by decide +kernel
theorem d_MO_take_32 : decode b_MO_take 32 = .ok (.aload_n 0, 1) := by decide +kernel
theorem d_MO_take_33 : decode b_MO_take 33 = .ok (.getfield 47, 3) := by decide +kernel
theorem d_MO_take_36 : decode b_MO_take 36 = .ok (.iload_n 1, 1) := by decide +kernel
theorem d_MO_take_37 : decode b_MO_take 37 = .ok (.laload, 1) := by decide +kernel
theorem d_MO_take_38 : decode b_MO_take 38 = .ok (.aload_n 0, 1) := by decide +kernel
theorem d_MO_take_39 : decode b_MO_take 39 = .ok (.getfield 51, 3) := by decide +kernel
theorem d_MO_take_42 : decode b_MO_take 42 = .ok (.iload_n 1, 1) := by decide +kernel
theorem d_MO_take_43 : decode b_MO_take 43 = .ok (.laload, 1) := by decide +kernel
theorem d_MO_take_44 : decode b_MO_take 44 = .ok (.lcmp, 1) := by decide +kernel
theorem d_MO_take_45 : decode b_MO_take 45 = .ok (.ifCond .ne 6, 3) := by decide +kernel
theorem d_MO_take_48 : decode b_MO_take 48 = .ok (.bipush (-2), 2) := by decide +kernel
theorem d_MO_take_50 : decode b_MO_take 50 = .ok (.ireturn, 1) := by decide +kernel
theorem d_MO_take_51 : decode b_MO_take 51 = .ok (.aload_n 0, 1) := by decide +kernel
theorem d_MO_take_52 : decode b_MO_take 52 = .ok (.iload_n 1, 1) := by decide +kernel
theorem d_MO_take_53 : decode b_MO_take 53 = .ok (.aload_n 0, 1) := by decide +kernel
theorem d_MO_take_54 : decode b_MO_take 54 = .ok (.getfield 51, 3) := by decide +kernel
theorem d_MO_take_57 : decode b_MO_take 57 = .ok (.iload_n 1, 1) := by decide +kernel
theorem d_MO_take_58 : decode b_MO_take 58 = .ok (.laload, 1) := by decide +kernel
theorem d_MO_take_59 : decode b_MO_take 59 = .ok (.invokevirtual 147, 3) := by decide +kernel
theorem d_MO_take_62 : decode b_MO_take 62 = .ok (.lstore_n 3, 1) := by decide +kernel
theorem d_MO_take_63 : decode b_MO_take 63 = .ok (.lload_n 3, 1) := by decide +kernel
theorem d_MO_take_64 : decode b_MO_take 64 = .ok (.lconst 1, 1) := by decide +kernel
theorem d_MO_take_65 : decode b_MO_take 65 = .ok (.lcmp, 1) := by decide +kernel
theorem d_MO_take_66 : decode b_MO_take 66 = .ok (.ifCond .lt 37, 3) := by decide +kernel
theorem d_MO_take_69 : decode b_MO_take 69 = .ok (.lload_n 3, 1) := by decide +kernel
theorem d_MO_take_70 : decode b_MO_take 70 = .ok (.ldc2_w 95, 3) := by decide +kernel
theorem d_MO_take_73 : decode b_MO_take 73 = .ok (.lcmp, 1) := by decide +kernel
theorem d_MO_take_74 : decode b_MO_take 74 = .ok (.ifCond .gt 29, 3) := by decide +kernel
theorem d_MO_take_77 : decode b_MO_take 77 = .ok (.bipush 8, 2) := by decide +kernel
theorem d_MO_take_79 : decode b_MO_take 79 = .ok (.lload_n 3, 1) := by decide +kernel
theorem d_MO_take_80 : decode b_MO_take 80 = .ok (.l2i, 1) := by decide +kernel
theorem d_MO_take_81 : decode b_MO_take 81 = .ok (.invokestatic 76, 3) := by decide +kernel
theorem d_MO_take_84 : decode b_MO_take 84 = .ok (.iadd, 1) := by decide +kernel
theorem d_MO_take_85 : decode b_MO_take 85 = .ok (.i2l, 1) := by decide +kernel
theorem d_MO_take_86 : decode b_MO_take 86 = .ok (.aload_n 0, 1) := by decide +kernel
theorem d_MO_take_87 : decode b_MO_take 87 = .ok (.getfield 47, 3) := by decide +kernel
theorem d_MO_take_90 : decode b_MO_take 90 = .ok (.iload_n 1, 1) := by decide +kernel
theorem d_MO_take_91 : decode b_MO_take 91 = .ok (.laload, 1) := by decide +kernel
theorem d_MO_take_92 : decode b_MO_take 92 = .ok (.aload_n 0, 1) := by decide +kernel
theorem d_MO_take_93 : decode b_MO_take 93 = .ok (.getfield 51, 3) := by decide +kernel
theorem d_MO_take_96 : decode b_MO_take 96 = .ok (.iload_n 1, 1) := by decide +kernel
theorem d_MO_take_97 : decode b_MO_take 97 = .ok (.laload, 1) := by decide +kernel
theorem d_MO_take_98 : decode b_MO_take 98 = .ok (.lsub, 1) := by decide +kernel
theorem d_MO_take_99 : decode b_MO_take 99 = .ok (.lcmp, 1) := by decide +kernel
theorem d_MO_take_100 : decode b_MO_take 100 = .ok (.ifCond .le 13, 3) := by decide +kernel
theorem d_MO_take_103 : decode b_MO_take 103 = .ok (.aload_n 0, 1) := by decide +kernel
theorem d_MO_take_104 : decode b_MO_take 104 = .ok (.getfield 57, 3) := by decide +kernel
theorem d_MO_take_107 : decode b_MO_take 107 = .ok (.iload_n 1, 1) := by decide +kernel
theorem d_MO_take_108 : decode b_MO_take 108 = .ok (.iconst 1, 1) := by decide +kernel
theorem d_MO_take_109 : decode b_MO_take 109 = .ok (.bastore, 1) := by decide +kernel
theorem d_MO_take_110 : decode b_MO_take 110 = .ok (.bipush (-22), 2) := by decide +kernel
theorem d_MO_take_112 : decode b_MO_take 112 = .ok (.ireturn, 1) := by decide +kernel
theorem d_MO_take_113 : decode b_MO_take 113 = .ok (.lload_n 3, 1) := by decide +kernel
theorem d_MO_take_114 : decode b_MO_take 114 = .ok (.l2i, 1) := by decide +kernel
theorem d_MO_take_115 : decode b_MO_take 115 = .ok (.istore 5, 2) := by decide +kernel
theorem d_MO_take_117 : decode b_MO_take 117 = .ok (.aload_n 0, 1) := by decide +kernel
theorem d_MO_take_118 : decode b_MO_take 118 = .ok (.iload_n 2, 1) := by decide +kernel
theorem d_MO_take_119 : decode b_MO_take 119 = .ok (.iload 5, 2) := by decide +kernel
theorem d_MO_take_121 : decode b_MO_take 121 = .ok (.invokestatic 97, 3) := by decide +kernel
theorem d_MO_take_124 : decode b_MO_take 124 = .ok (.ifCond .eq 7, 3) := by decide +kernel
theorem d_MO_take_127 : decode b_MO_take 127 = .ok (.iconst 0, 1) := by decide +kernel
theorem d_MO_take_128 : decode b_MO_take 128 = .ok (.goto 4, 3) := by decide +kernel
theorem d_MO_take_131 : decode b_MO_take 131 = .ok (.iconst 1, 1) := by decide +kernel
theorem d_MO_take_132 : decode b_MO_take 132 = .ok (.putfield 60, 3) := by decide +kernel
theorem d_MO_take_135 : decode b_MO_take 135 = .ok (.aload_n 0, 1) := by decide +kernel
theorem d_MO_take_136 : decode b_MO_take 136 = .ok (.getfield 60, 3) := by decide +kernel
theorem d_MO_take_139 : decode b_MO_take 139 = .ok (.ifCond .le 5, 3) := by decide +kernel
theorem d_MO_take_142 : decode b_MO_take 142 = .ok (.iconst 0, 1) := by decide +kernel
theorem d_MO_take_143 : decode b_MO_take 143 = .ok (.ireturn, 1) := by decide +kernel
theorem d_MO_take_144 : decode b_MO_take 144 = .ok (.iconst 0, 1) := by decide +kernel
theorem d_MO_take_145 : decode b_MO_take 145 = .ok (.istore 6, 2) := by decide +kernel
theorem d_MO_take_147 : decode b_MO_take 147 = .ok (.iload 6, 2) := by decide +kernel
theorem d_MO_take_149 : decode b_MO_take 149 = .ok (.iload 5, 2) := by decide +kernel
theorem d_MO_take_151 : decode b_MO_take 151 = .ok (.if_icmp .ge 42, 3) := by decide +kernel
theorem d_MO_take_154 : decode b_MO_take 154 = .ok (.aload_n 0, 1) := by decide +kernel
theorem d_MO_take_155 : decode b_MO_take 155 = .ok (.getfield 7, 3) := by decide +kernel
theorem d_MO_take_158 : decode b_MO_take 158 = .ok (.iload_n 2, 1) := by decide +kernel
theorem d_MO_take_159 : decode b_MO_take 159 = .ok (.iload 6, 2) := by decide +kernel
theorem d_MO_take_161 : decode b_MO_take 161 = .ok (.iadd, 1) := by decide +kernel
theorem d_MO_take_162 : decode b_MO_take 162 = .ok (.aload_n 0, 1) := by decide +kernel
theorem d_MO_take_163 : decode b_MO_take 163 = .ok (.getfield 14, 3) := by decide +kernel
theorem d_MO_take_166 : decode b_MO_take 166 = .ok (.aload_n 0, 1) := by decide +kernel
theorem d_MO_take_167 : decode b_MO_take 167 = .ok (.iload_n 1, 1) := by decide +kernel
theorem d_MO_take_168 : decode b_MO_take 168 = .ok (.aload_n 0, 1) := by decide +kernel
theorem d_MO_take_169 : decode b_MO_take 169 = .ok (.getfield 51, 3) := by decide +kernel
theorem d_MO_take_172 : decode b_MO_take 172 = .ok (.iload_n 1, 1) := by decide +kernel
theorem d_MO_take_173 : decode b_MO_take 173 = .ok (.laload, 1) := by decide +kernel
theorem d_MO_take_174 : decode b_MO_take 174 = .ok (.ldc2_w 151, 3) := by decide +kernel
theorem d_MO_take_177 : decode b_MO_take 177 = .ok (.ladd, 1) := by decide +kernel
theorem d_MO_take_178 : decode b_MO_take 178 = .ok (.iload 6, 2) := by decide +kernel
theorem d_MO_take_180 : decode b_MO_take 180 = .ok (.i2l, 1) := by decide +kernel
theorem d_MO_take_181 : decode b_MO_take 181 = .ok (.ladd, 1) := by decide +kernel
theorem d_MO_take_182 : decode b_MO_take 182 = .ok (.invokevirtual 139, 3) := by decide +kernel
theorem d_MO_take_185 : decode b_MO_take 185 = .ok (.baload, 1) := by decide +kernel
theorem d_MO_take_186 : decode b_MO_take 186 = .ok (.bastore, 1) := by decide +kernel
theorem d_MO_take_187 : decode b_MO_take 187 = .ok (.iinc 6 1, 3) := by decide +kernel
theorem d_MO_take_190 : decode b_MO_take 190 = .ok (.goto (-43), 3) := by decide +kernel
theorem d_MO_take_193 : decode b_MO_take 193 = .ok (.aload_n 0, 1) := by decide +kernel
theorem d_MO_take_194 : decode b_MO_take 194 = .ok (.getfield 51, 3) := by decide +kernel
theorem d_MO_take_197 : decode b_MO_take 197 = .ok (.iload_n 1, 1) := by decide +kernel
theorem d_MO_take_198 : decode b_MO_take 198 = .ok (.dup2, 1) := by decide +kernel
theorem d_MO_take_199 : decode b_MO_take 199 = .ok (.laload, 1) := by decide +kernel
theorem d_MO_take_200 : decode b_MO_take 200 = .ok (.bipush 8, 2) := by decide +kernel
theorem d_MO_take_202 : decode b_MO_take 202 = .ok (.iload 5, 2) := by decide +kernel
theorem d_MO_take_204 : decode b_MO_take 204 = .ok (.invokestatic 76, 3) := by decide +kernel
theorem d_MO_take_207 : decode b_MO_take 207 = .ok (.iadd, 1) := by decide +kernel
theorem d_MO_take_208 : decode b_MO_take 208 = .ok (.i2l, 1) := by decide +kernel
theorem d_MO_take_209 : decode b_MO_take 209 = .ok (.ladd, 1) := by decide +kernel
theorem d_MO_take_210 : decode b_MO_take 210 = .ok (.lastore, 1) := by decide +kernel
theorem d_MO_take_211 : decode b_MO_take 211 = .ok (.iload 5, 2) := by decide +kernel
theorem d_MO_take_213 : decode b_MO_take 213 = .ok (.ireturn, 1) := by decide +kernel
theorem lN_ne0 {n : Nat} (h0 : 0 < n) (h : n < 2 ^ 63) : ¬ lN n = 0 := fun z => by
  have := (lN_eqL h (show (0 : Nat) < 2 ^ 63 by decide)).mp z
  omega
theorem up8_8 (z : Nat) : 8 + up8 z = up8 (8 + z) := by unfold up8; omega
theorem rcB_lt {d : Nat → Nat} (hd : ∀ j, d j < 256) (z r a : Nat) : ∀ j, rcB d z r a j < 256 := fun j => by
  unfold rcB
  split
  · exact Nat.mod_lt _ (by decide)
  · split
    · exact Nat.mod_lt _ (by decide)
    · split
      · exact hd _
      · decide
theorem rng_lt {f v : Nat → Nat} (hf : ∀ j, f j < 256) (hv : ∀ j, v j < 256) (b n h : Nat) : ∀ k x, rng f b n h v k x < 256
  | 0, x => hf x
  | k + 1, x => by
    show (if x = b + (h + k) % n then v k else rng f b n h v k x) < 256
    split
    · exact hv _
    · exact rng_lt hf hv b n h k x
theorem sh8 {n : Nat} (h : n < 2 ^ 31) {j : Nat} (hj : j < 4) : nI n >>> (nI (8 * j) &&& 31) = nI (n / 2 ^ (8 * j)) := by
  refine pk_shrN h _ _ ?_
  rcases (by omega : j = 0 ∨ j = 1 ∨ j = 2 ∨ j = 3) with h | h | h | h <;> subst h <;> decide
section
variable {fe fk : Nat → Nat} {ec kc : Nat} {fi : Nat → Nat → Int32} {fl : Nat → Nat → Int64} {S : as_S}
theorem mo_R.ring (h : mo_R fe fk ec kc fi fl S) {fi' : Nat → Nat → Int32} {fl' : Nat → Nat → Int64} {i : Nat} (hi : i < nm S) {hh tt rr : Nat} {bb : Bool}
    (h11 : ∀ p, fl' 11 p = if p = i then lN hh else fl 11 p) (h12 : ∀ p, fl' 12 p = if p = i then lN tt else fl 12 p) (h13 : ∀ p, fi' 13 p = if p = i then nI rr else fi 13 p) (h14 : ∀ p, fi' 14 p = if p = i then nI (if bb = true then 1 else 0) else fi 14 p)
    (ho : ∀ k, k ≠ 13 → k ≠ 14 → fi' k = fi k) : mo_R fe fk ec kc fi' fl' (S_mm S i (M_rg (mm S i) hh tt rr bb)) := by
  obtain ⟨g1, g2, g3, g4, g5, g6, g7, g8, g9⟩ := h
  have s1 : ∀ j, (mm (S_mm S i (M_rg (mm S i) hh tt rr bb)) j).1 = (mm S j).1 ∧ (mm (S_mm S i (M_rg (mm S i) hh tt rr bb)) j).2.1 = (mm S j).2.1 := fun j => by
    by_cases z : j = i
    · subst z; rw [S_mm_self]; exact ⟨rfl, rfl⟩
    · rw [S_mm_ne _ _ z]; exact ⟨rfl, rfl⟩
  have s2 : ∀ j, j ≠ i → mm (S_mm S i (M_rg (mm S i) hh tt rr bb)) j = mm S j := fun j z => S_mm_ne _ _ z
  have s3 : mm (S_mm S i (M_rg (mm S i) hh tt rr bb)) i = M_rg (mm S i) hh tt rr bb := S_mm_self _ _ _
  have hS : dk (S_mm S i (M_rg (mm S i) hh tt rr bb)) = dk S ∧ ar (S_mm S i (M_rg (mm S i) hh tt rr bb)) = ar S ∧ nm (S_mm S i (M_rg (mm S i) hh tt rr bb)) = nm S ∧ gv (S_mm S i (M_rg (mm S i) hh tt rr bb)) = gv S := ⟨rfl, rfl, rfl, rfl⟩
  generalize S_mm S i (M_rg (mm S i) hh tt rr bb) = S2 at *
  obtain ⟨q1, q2, q3, q4⟩ := hS
  have k1 : ∀ j, kd (mm S2 j) = kd (mm S j) := fun j => by show (mm S2 j).1.1 = (mm S j).1.1; rw [(s1 j).1]
  have k2 : ∀ j, ks (mm S2 j) = ks (mm S j) := fun j => by show (mm S2 j).1.2.1 = (mm S j).1.2.1; rw [(s1 j).1]
  have k4 : ∀ j, en (mm S2 j) = en (mm S j) := fun j => by show (mm S2 j).1.2.2.2.1 = (mm S j).1.2.2.2.1; rw [(s1 j).1]
  have k6 : ∀ j, tb (mm S2 j) = tb (mm S j) := fun j => (s1 j).2
  refine ⟨by rw [q1, ho 0 (by decide) (by decide)]; exact g1, by rw [q2, ho 1 (by decide) (by decide)]; exact g2, fun j hj => ?_, fun j hj hj2 => ?_, fun j hj hkj => ?_, fun a b hab hb ha2 hb2 => ?_, by rw [ho 9 (by decide) (by decide)]; exact g7, by rw [q4]; exact g8, g9⟩
  · have hj : j < nm S := by rw [← q3]; exact hj
    rw [ho 2 (by decide) (by decide), ho 3 (by decide) (by decide), ho 4 (by decide) (by decide), ho 5 (by decide) (by decide), ho 6 (by decide) (by decide), h11, h12, h13, h14]
    by_cases z : j = i
    · subst z
      rw [if_pos rfl, if_pos rfl, if_pos rfl, if_pos rfl, s3]
      exact ⟨(g3 j hj).1, rfl, rfl, rfl, rfl⟩
    · rw [if_neg z, if_neg z, if_neg z, if_neg z, s2 j z]
      exact g3 j hj
  · have hj : nm S ≤ j := by rw [← q3]; exact hj
    have z : j ≠ i := by omega
    rw [h11, h12, h13, h14, if_neg z, if_neg z, if_neg z, if_neg z]
    exact g4 j hj hj2
  · rw [ho 7 (by decide) (by decide), ho 8 (by decide) (by decide), ho 9 (by decide) (by decide), ho 10 (by decide) (by decide), k2, k4, k6]
    exact g5 j (by rw [← q3]; exact hj) (by rw [← k1]; exact hkj)
  · rw [k2, k4]; exact g6 a b hab (by rw [← q3]; exact hb) (by rw [← k1]; exact ha2) (by rw [← k1]; exact hb2)
end
set_option maxRecDepth 100000 in
set_option maxHeartbeats 4000000 in
theorem c_MO_ringPlace (l : Launch) (D : va_G) (dA : Nat → ClassId) {w : mw_W} {own : as_W} {y t : Nat} {A : Nat → Nat} {cd : Int32} {fe fk : Nat → Nat} {ec kc : Nat} {fi : Nat → Nat → Int32} {fl : Nat → Nat → Int64} {S : as_S} (hw : mo_W dA w own y A cd (nI (gv S)) (nI (nm S)) (nI ec) (nI kc) (nI 0) fi fl) (hR : mo_R fe fk ec kc fi fl S) (hW : wf_S t S) {i : Nat} (hi : i < nm S) (hk : kd (mm S i) = 2) {cc : Nat} (hc : cc < 2 ^ 30) : CT l D dA y_MO_ringPlace (Cond.code y_MO_ringPlace b_MO_ringPlace 4 (some .int) :: Ts) 0 0 0 0 [.ref y, .int (nI i), .long (lN cc)] w (fun r w' => r = .inl (some (.int (nI (bg (mm S i) + cc % en (mm S i))))) ∧ w' = w) := by
  refine mw_meth (by decide) mk_tb (Nat.le_of_ble_eq_true rfl) ?_
  intro p e s m below meth c K hr hlk hce hnm hP0 hSy ls hl
  have hl : lv_has ls 4 [(0, .ref y), (1, .int (nI i)), (2, .long (lN cc))] := hl
  obtain ⟨hx, hb, hml, hown, hts, hK, hTb⟩ := id K
  have hI := mw_I.start hP0
  have h64 := hW.1
  have p8 := p2_8 (wf_R (hW.2.2.2.2.2 i hi) hk).2.1
  obtain ⟨⟨r1, r2, r3, r4, r5⟩, -⟩ := hR.2.2.1 i hi
  refine lv_aload_n hx hb d_MO_ringPlace_0 rfl (lv_at hl 0 rfl) ?_
  refine mw_get K hI gf_MO_30_cMO hw.o rfl d_MO_ringPlace_1 ?_
  refine lv_iload_n hx hb d_MO_ringPlace_4 rfl (lv_at hl 1 rfl) ?_
  refine mw_iald K hI tI hw.a6 rfl i rfl (by first | assumption | omega) (by omega) d_MO_ringPlace_5 ?_
  refine mw_ti (y := nI (bg (mm S i))) (r5) ?_
  refine lv_lload_n hx hb d_MO_ringPlace_6 rfl (lv_at hl 2 rfl) ?_
  refine lv_aload_n hx hb d_MO_ringPlace_7 rfl (lv_at hl 0 rfl) ?_
  refine mw_get K hI gf_MO_27_cMO hw.o rfl d_MO_ringPlace_8 ?_
  refine lv_iload_n hx hb d_MO_ringPlace_11 rfl (lv_at hl 1 rfl) ?_
  refine mw_iald K hI tI hw.a5 rfl i rfl (by first | assumption | omega) (by omega) d_MO_ringPlace_12 ?_
  refine mw_ti (y := nI (en (mm S i))) (r4) ?_
  refine lv_i2l hx hb d_MO_ringPlace_13 rfl ?_
  refine mw_tl (nI_l (by omega)) ?_
  refine lv_lrem hx hb d_MO_ringPlace_14 (lN_ne0 (by omega) (by omega)) ?_
  refine mw_tl (y := lN (cc % en (mm S i))) (pk_lRem (by omega) (by omega) (by omega)) ?_
  refine lv_l2i hx hb d_MO_ringPlace_15 rfl ?_
  refine mw_ti (lN_i _) ?_
  refine lv_iadd hx hb d_MO_ringPlace_16 ?_
  refine mw_ti (nI_add _ _) ?_
  exact mw_iret K hI hr hlk ⟨rfl, rfl⟩ d_MO_ringPlace_17
set_option maxRecDepth 100000 in
set_option maxHeartbeats 4000000 in
theorem c_MO_putRing (l : Launch) (D : va_G) (dA : Nat → ClassId) {w : mw_W} {own : as_W} {y t : Nat} {A : Nat → Nat} {cd : Int32} {fe fk : Nat → Nat} {ec kc : Nat} {fi : Nat → Nat → Int32} {fl : Nat → Nat → Int64} {S : as_S} (hw : mo_W dA w own y A cd (nI (gv S)) (nI (nm S)) (nI ec) (nI kc) (nI 0) fi fl) (hR : mo_R fe fk ec kc fi fl S) (hW : wf_S t S) {i : Nat} (hi : i < nm S) (hk : kd (mm S i) = 2) {cc : Nat} (hc : cc < 2 ^ 30) (x : Int32) : CT l D dA y_MO_putRing (Cond.code y_MO_putRing b_MO_putRing 5 none :: Ts) 1 40 0 0 [.ref y, .int (nI i), .long (lN cc), .int x] w (fun r w' => r = .inl none ∧ FrM w own w' ∧ ∃ fi', mo_W dA w' own y A cd (nI (gv S)) (nI (nm S)) (nI ec) (nI kc) (nI 0) fi' fl ∧ mo_R fe fk ec kc fi' fl (S_ar S (nup (ar S) (bg (mm S i) + cc % en (mm S i)) (x.toBitVec.toNat % 256))) ∧ ∀ a, a ≠ 1 → fi' a = fi a) := by
  refine mw_meth (by decide) mk_tb (Nat.le_of_ble_eq_true rfl) ?_
  intro p e s m below meth c K hr hlk hce hnm hP0 hSy ls hl
  have hl : lv_has ls 5 [(0, .ref y), (1, .int (nI i)), (2, .long (lN cc)), (4, .int x)] := hl
  obtain ⟨hx, hb, hml, hown, hts, hK, hTb⟩ := id K
  have hI := mw_I.start hP0
  have h64 := hW.1
  have hF := FrM.rf w own
  obtain ⟨z1, z2, z3, z4, -⟩ := wf_R (hW.2.2.2.2.2 i hi) hk
  have p8 := p2_8 z2
  have hm := Nat.mod_lt cc (show 0 < en (mm S i) by omega)
  refine lv_aload_n hx hb d_MO_putRing_0 rfl (lv_at hl 0 rfl) ?_
  refine mw_get K hI gf_MO_14_cMO hw.o rfl d_MO_putRing_1 ?_
  refine lv_aload_n hx hb d_MO_putRing_4 rfl (lv_at hl 0 rfl) ?_
  refine lv_iload_n hx hb d_MO_putRing_5 rfl (lv_at hl 1 rfl) ?_
  refine lv_lload_n hx hb d_MO_putRing_6 rfl (lv_at hl 2 rfl) ?_
  refine mw_call (rest := [.ref (A 1)]) K hSy hP0 hI (c_MO_ringPlace l D dA hw hR hW hi hk hc) (mx_invV hx hown (hts _ tw_780) (hts _ tw_782) (hts _ tw_18) (hts _ tw_783) (by decide) (b := y) (mw_rc K hI hw.o rfl) (g := F0 m 7 ls [.long (lN cc), .int (nI i), .ref y, .ref (A 1)]) rfl (argsL := [.int (nI i), .long (lN cc)]) (rest := [.ref (A 1)]) np_MO_ringPlace rfl (by rw [hb]; exact d_MO_putRing_7)) hl.1 d_MO_putRing_7 ⟨Nat.le_of_ble_eq_true rfl, Nat.le_of_ble_eq_true rfl⟩ (Or.inl ⟨_, _, List.mem_cons_self⟩) (mk_ws tw_783 hts) (fun a9 U9 h9 => Ts_warm hts _ tw_23 a9 U9 h9) ⟨Nat.le_of_ble_eq_true rfl, Nat.le_of_ble_eq_true rfl⟩ (fun v w' H locs hq hI => ?_) (fun k x w' H locs hq hI hX => ?_)
  · obtain ⟨hq1, hq2⟩ := hq
    cases hq1
    rw [hq2] at hI
    refine W.eq (g2 := F0 m 10 ls [.int (nI (bg (mm S i) + cc % en (mm S i))), .ref (A 1)]) rfl ?_
    refine lv_iload hx hb d_MO_putRing_10 (lv_at hl 3 rfl) ?_
    refine lv_i2b hx hb d_MO_putRing_12 rfl ?_
    refine mw_ti (y := sB (x.toBitVec.toNat % 256)) (sB_i2b x) ?_
    refine mw_bast K hI tB hw.a1 rfl (bg (mm S i) + cc % en (mm S i)) rfl (by first | assumption | omega) (by omega) d_MO_putRing_13 (fun H locs hI => ?_)
    obtain ⟨wn1, fn1, hI, hF, hw, hfn1⟩ := hw.seti (f := upd (fi 1) (bg (mm S i) + cc % en (mm S i)) (vp_nar .byte (sB (x.toBitVec.toNat % 256)))) 1 (by decide) hI hF rfl
    refine mw_vret K hI hr hlk ⟨rfl, hF, _, hw, ?_, fun a ha => ?_⟩ d_MO_putRing_14
    · rw [hfn1]
      refine hR.area (fun p hp => ?_)
      rw [sB_nar (Nat.mod_lt _ (by decide))]
      show (if p = bg (mm S i) + cc % en (mm S i) then sB (x.toBitVec.toNat % 256) else fi 1 p) = _
      unfold nup
      split
      · rfl
      · exact hR.2.1 p hp
    · rw [hfn1, va_up_ne _ _ ha]
  · exact absurd hq.1 (by simp)
set_option maxRecDepth 100000 in
set_option maxHeartbeats 4000000 in
theorem c_MO_numberInRing (l : Launch) (D : va_G) (dA : Nat → ClassId) {w : mw_W} {own : as_W} {y t : Nat} {A : Nat → Nat} {cd : Int32} {fe fk : Nat → Nat} {ec kc : Nat} {fi : Nat → Nat → Int32} {fl : Nat → Nat → Int64} {S : as_S} (hw : mo_W dA w own y A cd (nI (gv S)) (nI (nm S)) (nI ec) (nI kc) (nI 0) fi fl) (hR : mo_R fe fk ec kc fi fl S) (hW : wf_S t S) {i : Nat} (hi : i < nm S) (hk : kd (mm S i) = 2) {cc : Nat} (hc : cc < 2 ^ 30) (h8 : cc % 8 = 0) : CT l D dA y_MO_numberInRing (Cond.code y_MO_numberInRing b_MO_numberInRing 7 (some .long) :: Ts) 1 40 0 0 [.ref y, .int (nI i), .long (lN cc)] w (fun r w' => r = .inl (some (.long (lN (bw_n (ar S) (bg (mm S i) + cc % en (mm S i)) 4)))) ∧ w' = w) := by
  refine mw_meth (by decide) mk_tb (Nat.le_of_ble_eq_true rfl) ?_
  intro p e s m below meth c K hr hlk hce hnm hP0 hSy ls hl
  have hl : lv_has ls 7 [(0, .ref y), (1, .int (nI i)), (2, .long (lN cc))] := hl
  obtain ⟨hx, hb, hml, hown, hts, hK, hTb⟩ := id K
  have hI := mw_I.start hP0
  have h64 := hW.1
  obtain ⟨z1, z2, z3, z4, -⟩ := wf_R (hW.2.2.2.2.2 i hi) hk
  have p8 := p2_8 z2
  have hm8 := mod8 h8 p8.1 (by omega)
  have hneg : nI 0 - 1 < 0 := by decide
  obtain ⟨b0, eb0⟩ : ∃ b0, b0 = bg (mm S i) + cc % en (mm S i) := ⟨_, rfl⟩
  have hpl : ∀ j, j < 4 → bg (mm S i) + (cc + j) % en (mm S i) = b0 + j := fun j hj => by
    rw [eb0, Nat.add_mod, Nat.mod_eq_of_lt (a := j) (by omega), Nat.mod_eq_of_lt (by omega)]; omega
  have hloop : ∀ (j : Nat), j ≤ 4 → ∀ (H : Heap) (locs : List Loc), mw_I D mk_cl w s.heap w H locs → ∀ (v5 : Int32), v5 = nI j - 1 → ∀ ls : Array Slot, lv_has ls 7 [(6, .int v5), (4, .long (lN (bw_n (ar S) (b0 + j) (4 - j)))), (0, .ref y), (1, .int (nI i)), (2, .long (lN cc))] → W p l e { frames := 1, cells := 0, slots := 0, locals := 40 } s m ([.ref y, .int (nI i), .long (lN cc)] : List Value).toArray below meth c H locs 0 0 (mx_Q below (mw_Qc D mk_cl w s.heap.size (fun r w' => r = .inl (some (.long (lN (bw_n (ar S) (bg (mm S i) + cc % en (mm S i)) 4)))) ∧ w' = w)) ([.ref y, .int (nI i), .long (lN cc)] : List Value).toArray s 0 0 (mw_A w s.heap.size)) (F0 m 6 ls []) := by
    intro j
    induction j with
    | zero =>
      intro hj H locs hI v5 hv ls hl
      subst hv
      refine lv_iload hx hb d_MO_numberInRing_6 (lv_at hl 0 rfl) ?_
      refine lv_if_lt (tgt := 46) hx hb d_MO_numberInRing_8 (by decide) (fun c8 => ?_) (fun c8 => ?_)
      ·
        refine lv_lload hx hb d_MO_numberInRing_46 (lv_at hl 1 rfl) ?_
        rw [eb0]
        exact mw_lret K hI hr hlk ⟨rfl, rfl⟩ d_MO_numberInRing_48
      · exact absurd hneg c8
    | succ j ih =>
      intro hj H locs hI v5 hv ls hl
      rw [nI_pred] at hv
      subst hv
      have hd9 := hW.2.2.2.2.1 (b0 + j)
      have hf9 := hR.2.1 (b0 + j) (by omega)
      refine lv_iload hx hb d_MO_numberInRing_6 (lv_at hl 0 rfl) ?_
      refine lv_if_lt (tgt := 46) hx hb d_MO_numberInRing_8 (by decide) (fun c8 => ?_) (fun c8 => ?_)
      · exact absurd c8 (nI_pos (by omega))
      ·
        refine lv_ldc2 (v := lN 256) hx hb hown (hts _ tw_712) d_MO_numberInRing_11 ?_
        refine lv_lload hx hb d_MO_numberInRing_14 (lv_at hl 1 rfl) ?_
        refine lv_lmul hx hb d_MO_numberInRing_16 ?_
        refine mw_tl (lN_mul _ _) ?_
        refine lv_aload_n hx hb d_MO_numberInRing_17 rfl (lv_at hl 2 rfl) ?_
        refine mw_get K hI gf_MO_14_cMO hw.o rfl d_MO_numberInRing_18 ?_
        refine lv_aload_n hx hb d_MO_numberInRing_21 rfl (lv_at hl 2 rfl) ?_
        refine lv_iload_n hx hb d_MO_numberInRing_22 rfl (lv_at hl 3 rfl) ?_
        refine lv_lload_n hx hb d_MO_numberInRing_23 rfl (lv_at hl 4 rfl) ?_
        refine lv_iload hx hb d_MO_numberInRing_24 (lv_at hl 0 rfl) ?_
        refine lv_i2l hx hb d_MO_numberInRing_26 rfl ?_
        refine mw_tl (nI_l (by omega)) ?_
        refine lv_ladd hx hb d_MO_numberInRing_27 ?_
        refine mw_tl (lN_add _ _) ?_
        refine mw_call (rest := [.ref (A 1), .long (lN (256 * (bw_n (ar S) (b0 + (j + 1)) (4 - (j + 1)))))]) K hSy hP0 hI (c_MO_ringPlace l D dA hw hR hW hi hk (cc := cc + j) (by omega)) (mx_invV hx hown (hts _ tw_780) (hts _ tw_782) (hts _ tw_18) (hts _ tw_783) (by decide) (b := y) (mw_rc K hI hw.o rfl) (g := F0 m 28 ls [.long (lN (cc + j)), .int (nI i), .ref y, .ref (A 1), .long (lN (256 * (bw_n (ar S) (b0 + (j + 1)) (4 - (j + 1)))))]) rfl (argsL := [.int (nI i), .long (lN (cc + j))]) (rest := [.ref (A 1), .long (lN (256 * (bw_n (ar S) (b0 + (j + 1)) (4 - (j + 1)))))]) np_MO_ringPlace rfl (by rw [hb]; exact d_MO_numberInRing_28)) hl.1 d_MO_numberInRing_28 ⟨Nat.le_of_ble_eq_true rfl, Nat.le_of_ble_eq_true rfl⟩ (Or.inl ⟨_, _, List.mem_cons_self⟩) (mk_ws tw_783 hts) (fun a9 U9 h9 => Ts_warm hts _ tw_23 a9 U9 h9) ⟨Nat.le_of_ble_eq_true rfl, Nat.le_of_ble_eq_true rfl⟩ (fun v w' H locs hq hI => ?_) (fun k x w' H locs hq hI hX => ?_)
        · obtain ⟨hq1, hq2⟩ := hq
          cases hq1
          rw [hq2] at hI
          rw [hpl j (by omega)]
          refine W.eq (g2 := F0 m 31 ls [.int (nI (b0 + j)), .ref (A 1), .long (lN (256 * (bw_n (ar S) (b0 + (j + 1)) (4 - (j + 1)))))]) rfl ?_
          refine mw_bald K hI tB hw.a1 rfl (b0 + j) rfl (by first | assumption | omega) (by omega) d_MO_numberInRing_31 ?_
          refine lv_sipush (v := nI 255) hx hb d_MO_numberInRing_32 (by decide) ?_
          refine lv_iand hx hb d_MO_numberInRing_35 ?_
          refine mw_ti (y := nI (ar S (b0 + j))) ((by rw [hf9, sB_and hd9])) ?_
          refine lv_i2l hx hb d_MO_numberInRing_36 rfl ?_
          refine mw_tl (nI_l (by omega)) ?_
          refine lv_ladd hx hb d_MO_numberInRing_37 ?_
          refine mw_tl (lN_add _ _) ?_
          refine mw_tl (y := lN (bw_n (ar S) (b0 + j) (4 - j))) ((by congr 1; rw [show 4 - j = (4 - (j + 1)) + 1 by omega, bw_n, Nat.add_assoc b0 j 1]; omega)) ?_
          refine lv_lstore (lv' := [(4, .long (lN (bw_n (ar S) (b0 + j) (4 - j)))), (6, .int (nI j)), (0, .ref y), (1, .int (nI i)), (2, .long (lN cc))]) hx hb d_MO_numberInRing_38 hl (by decide) rfl (fun ls hl => ?_)
          refine lv_iinc (v := nI j - 1) (lv' := [(6, .int (nI j - 1)), (4, .long (lN (bw_n (ar S) (b0 + j) (4 - j)))), (0, .ref y), (1, .int (nI i)), (2, .long (lN cc))]) hx hb d_MO_numberInRing_40 hl (k := 1) rfl ((by rw [Int32.sub_eq_add_neg]; rfl)) (by decide) rfl (fun ls hl => ?_)
          refine lv_goto (tgt := 6) hx hb d_MO_numberInRing_43 (by decide) ?_
          exact ih (by omega) H locs hI _ rfl ls (lv_sub hl [0, 1, 2, 3, 4] rfl)
        · exact absurd hq.1 (by simp)
  refine lv_lconst (v := lN 0) hx hb d_MO_numberInRing_0 (by decide) ?_
  refine lv_lstore (lv' := [(4, .long (lN 0)), (0, .ref y), (1, .int (nI i)), (2, .long (lN cc))]) hx hb d_MO_numberInRing_1 hl (by decide) rfl (fun ls hl => ?_)
  refine lv_iconst (v := nI 3) hx hb d_MO_numberInRing_3 (by decide) ?_
  refine lv_istore (lv' := [(6, .int (nI 3)), (4, .long (lN 0)), (0, .ref y), (1, .int (nI i)), (2, .long (lN cc))]) hx hb d_MO_numberInRing_4 hl (by decide) rfl (fun ls hl => ?_)
  exact hloop 4 (Nat.le_refl 4) _ _ hI _ rfl ls (lv_sub hl [0, 1, 2, 3, 4] rfl)
set_option maxRecDepth 100000 in
set_option maxHeartbeats 4000000 in
theorem c_MO_put (l : Launch) (D : va_G) (dA : Nat → ClassId) {w : mw_W} {own : as_W} {y t : Nat} {cd : Int32} {S : as_S} (hM : RepM dA w own y cd S) (hW : wf_S t S) (ht : t ≤ 512) (q a z : Int32) : CT l D dA y_MO_put (Cond.code y_MO_put b_MO_put 7 (some .int) :: Ts) 3 120 0 0 [.ref y, .int q, .int a, .int z] w (MM dA w own y kO (sp_PUT S q a z)) := by
  refine mw_meth (by decide) mk_tb (Nat.le_of_ble_eq_true rfl) ?_
  intro p e s m below meth c K hr hlk hce hnm hP0 hSy ls hl
  have hl : lv_has ls 7 [(0, .ref y), (1, .int q), (2, .int a), (3, .int z)] := hl
  obtain ⟨hx, hb, hml, hown, hts, hK, hTb⟩ := id K
  have hI := mw_I.start hP0
  obtain ⟨A, fe, fk, ec, kc, fi, fl, hw, hR⟩ := hM
  have hF := FrM.rf w own
  have h64 := hW.1
  refine lv_aload_n hx hb d_MO_put_0 rfl (lv_at hl 0 rfl) ?_
  refine lv_iload_n hx hb d_MO_put_1 rfl (lv_at hl 1 rfl) ?_
  refine mw_call (rest := []) K hSy hP0 hI (c_MO_noMap l D dA hw hW.1 q) (mx_invV hx hown (hts _ tw_694) (hts _ tw_696) (hts _ tw_8) (hts _ tw_697) (by decide) (b := y) (mw_rc K hI hw.o rfl) (g := F0 m 2 ls [.int q, .ref y]) rfl (argsL := [.int q]) (rest := []) np_MO_noMap rfl (by rw [hb]; exact d_MO_put_2)) hl.1 d_MO_put_2 ⟨Nat.le_of_ble_eq_true rfl, Nat.le_of_ble_eq_true rfl⟩ (Or.inl ⟨_, _, List.mem_cons_self⟩) (mk_ws tw_697 hts) (fun a9 U9 h9 => Ts_warm hts _ tw_23 a9 U9 h9) ⟨Nat.le_of_ble_eq_true rfl, Nat.le_of_ble_eq_true rfl⟩ (fun v w' H locs hq hI => ?_) (fun k x w' H locs hq hI hX => ?_)
  · obtain ⟨hF, ⟨h1, h2, hq1, hw⟩ | ⟨h1, hq1, hw⟩⟩ := hq
    · cases hq1
      have hsp : sp_PUT S q a z = _ := if_pos ⟨h1, h2⟩
      obtain ⟨e1, hi⟩ := inM_nI ⟨h1, h2⟩ hW.1
      refine W.eq (g2 := F0 m 5 ls [.int (nI 0)]) rfl ?_
      rw [e1] at hl
      generalize q.toNatClampNeg = i at *
      have hwf := hW.2.2.2.2.2 i hi
      obtain ⟨⟨r1, r2, r3, r4, r5⟩, r11, r12, r13, r14⟩ := hR.2.2.1 i hi
      have hkk : kd (mm S i) = 0 ∨ kd (mm S i) = 1 ∨ kd (mm S i) = 2 := by
        obtain ⟨-, ⟨k0, -⟩ | ⟨k0, -⟩ | ⟨k0, -⟩⟩ := hwf
        · exact Or.inl k0
        · exact Or.inr (Or.inl k0)
        · exact Or.inr (Or.inr k0)
      refine lv_if_eq (tgt := 10) hx hb d_MO_put_5 (by decide) (fun c5 => ?_) (fun c5 => ?_)
      ·
        have bad : ¬ (kd (mm S i) = 2 ∧ 1 ≤ z.toInt ∧ z.toInt ≤ 256) → ∀ (H : Heap) (locs : List Loc), mw_I D mk_cl w s.heap w' H locs → ∀ ls : Array Slot, lv_has ls 7 [] → W p l e { frames := 3, cells := 0, slots := 0, locals := 120 } s m ([.ref y, .int q, .int a, .int z] : List Value).toArray below meth c H locs 0 0 (mx_Q below (mw_Qc D mk_cl w s.heap.size (MM dA w own y kO (sp_PUT S q a z))) ([.ref y, .int q, .int a, .int z] : List Value).toArray s 0 0 (mw_A w s.heap.size)) (F0 m 31 ls []) := by
          intro hn H locs hI ls hl
          have hsp : sp_PUT S q a z = (S, .inl (-22)) := by
            by_cases h2 : kd (mm S i) = 2
            · exact (hsp.trans (if_pos h2)).trans (if_neg (fun h => hn ⟨h2, h⟩))
            · exact hsp.trans (if_neg h2)
          refine lv_bipush (v := (-22)) hx hb d_MO_put_31 (by decide) ?_
          refine mw_iret K hI hr hlk ?_ d_MO_put_33
          rw [hsp]
          exact ⟨_, _, rfl, ⟨A, fe, fk, ec, kc, fi, fl, hw, hR⟩, hF, fun u hu => by cases hu; exact ⟨rfl, rfl⟩, fun k hk => by cases hk⟩
        refine lv_aload_n hx hb d_MO_put_10 rfl (lv_at hl 0 rfl) ?_
        refine mw_get K hI gf_MO_17_cMO hw.o rfl d_MO_put_11 ?_
        refine lv_iload_n hx hb d_MO_put_14 rfl (lv_at hl 1 rfl) ?_
        refine mw_iald K hI tI hw.a2 rfl i rfl (by first | assumption | omega) (by omega) d_MO_put_15 ?_
        refine mw_ti (y := nI (kd (mm S i))) (r1) ?_
        refine lv_iconst (v := nI 2) hx hb d_MO_put_16 (by decide) ?_
        refine lv_icmp_ne (tgt := 31) hx hb d_MO_put_17 (by decide) (fun c17 => ?_) (fun c17 => ?_)
        ·
          exact bad (fun h => c17 (by rw [h.1])) H locs hI ls (lv_sub hl [] rfl)
        ·
          have hk : kd (mm S i) = 2 := (nI_eq (by omega) (by decide)).mp c17
          obtain ⟨z1, z2, z3, z4, z5, z6, z7, z8, z9⟩ := wf_R hwf hk
          have p8 := p2_8 z2
          refine lv_iload_n hx hb d_MO_put_20 rfl (lv_at hl 3 rfl) ?_
          refine lv_iconst (v := nI 1) hx hb d_MO_put_21 (by decide) ?_
          refine lv_sipush (v := nI 256) hx hb d_MO_put_22 (by decide) ?_
          refine mp_call (rest := []) hb hml (c_MO_isIn l z (nI 1) (nI 256)) (mx_invS hx hown (hts _ tw_677) (hts _ tw_678) (hts _ tw_23) (hts _ tw_679) (by decide) (g := F0 m 25 ls [.int (nI 256), .int (nI 1), .int z]) rfl (argsL := [.int z, .int (nI 1), .int (nI 256)]) (rest := []) np_MO_isIn rfl (by rw [hb]; exact d_MO_put_25)) hl.1 d_MO_put_25 ⟨Nat.le_of_ble_eq_true rfl, Nat.le_of_ble_eq_true rfl⟩ (Or.inl ⟨_, _, List.mem_cons_self⟩) (mk_ws tw_679 hts) (fun a9 U9 h9 => Ts_warm hts _ tw_23 a9 U9 h9) (by first | exact ⟨Nat.le_of_ble_eq_true rfl, Nat.le_of_ble_eq_true rfl⟩ | assumption) (fun v hv => ?_)
          subst hv
          refine W.eq (g2 := F0 m 28 ls [.int (if (nI 1).toInt ≤ z.toInt ∧ z.toInt ≤ (nI 256).toInt then 1 else 0)]) rfl ?_
          rw [inB_i z (a := 1) (b := 256) (by decide) (by decide)]
          refine lv_if_ne (tgt := 34) hx hb d_MO_put_28 (by decide) (fun c28 => ?_) (fun c28 => ?_)
          ·
            rw [if10.2] at c28
            have hsp := (hsp.trans (if_pos hk)).trans (if_pos c28)
            obtain ⟨e3, e4, e5⟩ := inB_nI c28 (by decide)
            rw [e3] at hl
            generalize z.toNatClampNeg = zn at *
            have u8 := up8_ge (8 + zn)
            have u88 := up8_8 zn
            refine lv_aload_n hx hb d_MO_put_34 rfl (lv_at hl 0 rfl) ?_
            refine lv_iload_n hx hb d_MO_put_35 rfl (lv_at hl 2 rfl) ?_
            refine lv_iload_n hx hb d_MO_put_36 rfl (lv_at hl 3 rfl) ?_
            refine mp_call (rest := [.ref y]) hb hml (c_MO_isDesk l a (n := zn) (by omega)) (mx_invS hx hown (hts _ tw_706) (hts _ tw_707) (hts _ tw_23) (hts _ tw_708) (by decide) (g := F0 m 37 ls [.int (nI zn), .int a, .ref y]) rfl (argsL := [.int a, .int (nI zn)]) (rest := [.ref y]) np_MO_isDesk rfl (by rw [hb]; exact d_MO_put_37)) hl.1 d_MO_put_37 ⟨Nat.le_of_ble_eq_true rfl, Nat.le_of_ble_eq_true rfl⟩ (Or.inl ⟨_, _, List.mem_cons_self⟩) (mk_ws tw_708 hts) (fun a9 U9 h9 => Ts_warm hts _ tw_23 a9 U9 h9) (by first | exact ⟨Nat.le_of_ble_eq_true rfl, Nat.le_of_ble_eq_true rfl⟩ | assumption) (fun v hv => ?_)
            subst hv
            refine W.eq (g2 := F0 m 40 ls [.int (if inD a zn 512 then 1 else 0), .ref y]) rfl ?_
            refine lv_if_eq (tgt := 47) hx hb d_MO_put_40 (by decide) (fun c40 => ?_) (fun c40 => ?_)
            ·
              rw [if10.1] at c40
              have hsp := hsp.trans (if_neg c40)
              refine lv_iconst (v := nI 1) hx hb d_MO_put_47 (by decide) ?_
              refine mw_put K hI gp_MO_60_cMO (Or.inl ⟨_, rfl, rfl⟩) hw.o rfl rfl (by simp) d_MO_put_48 (fun H locs hI => ?_)
              obtain ⟨wn2, hI, hF, hw⟩ := mo_W.seto (cd' := (nI 1)) (g' := nI (gv S)) (n' := nI (nm S)) (ec' := nI ec) (kc' := nI kc) (br' := nI 0) hw hI hF
              refine lv_aload_n hx hb d_MO_put_51 rfl (lv_at hl 0 rfl) ?_
              refine mw_get K hI gf_MO_60_cMO hw.o rfl d_MO_put_52 ?_
              refine lv_if_le (tgt := 60) hx hb d_MO_put_55 (by decide) (fun c55 => ?_) (fun c55 => ?_)
              ·
                exact absurd c55 (by decide)
              ·
                refine lv_iconst (v := nI 0) hx hb d_MO_put_58 (by decide) ?_
                refine mw_iret K hI hr hlk ?_ d_MO_put_59
                rw [hsp]
                exact ⟨_, _, rfl, ⟨A, fe, fk, ec, kc, fi, fl, hw, hR⟩, hF, (fun u hu => by cases hu), fun k hk => by cases hk; rfl⟩
            ·
              rw [if10.2] at c40
              have hsp := hsp.trans (if_pos c40)
              obtain ⟨e6, e7⟩ := inD_nI c40 (by decide)
              rw [e6] at hl
              generalize a.toNatClampNeg = an at *
              refine lv_iconst (v := nI 0) hx hb d_MO_put_43 (by decide) ?_
              refine lv_goto (tgt := 48) hx hb d_MO_put_44 (by decide) ?_
              refine mw_put K hI gp_MO_60_cMO (Or.inl ⟨_, rfl, rfl⟩) hw.o rfl rfl (by simp) d_MO_put_48 (fun H locs hI => ?_)
              obtain ⟨wn3, hI, hF, hw⟩ := mo_W.seto (cd' := (nI 0)) (g' := nI (gv S)) (n' := nI (nm S)) (ec' := nI ec) (kc' := nI kc) (br' := nI 0) hw hI hF
              refine lv_aload_n hx hb d_MO_put_51 rfl (lv_at hl 0 rfl) ?_
              refine mw_get K hI gf_MO_60_cMO hw.o rfl d_MO_put_52 ?_
              refine lv_if_le (tgt := 60) hx hb d_MO_put_55 (by decide) (fun c55 => ?_) (fun c55 => ?_)
              ·
                refine lv_aload_n hx hb d_MO_put_60 rfl (lv_at hl 0 rfl) ?_
                refine mw_get K hI gf_MO_57_cMO hw.o rfl d_MO_put_61 ?_
                refine lv_iload_n hx hb d_MO_put_64 rfl (lv_at hl 1 rfl) ?_
                refine mw_zald K hI tZ hw.a14 rfl i rfl (by first | assumption | omega) (by omega) d_MO_put_65 ?_
                refine mw_ti (y := nI (if bk (mm S i) = true then 1 else 0)) (r14) ?_
                refine lv_if_eq (tgt := 72) hx hb d_MO_put_66 (by decide) (fun c66 => ?_) (fun c66 => ?_)
                ·
                  have hb0 : ¬ bk (mm S i) = true := fun z => by rw [if_pos z] at c66; exact absurd c66 (by decide)
                  have hsp := hsp.trans (if_neg hb0)
                  refine lv_bipush (v := nI 8) hx hb d_MO_put_72 (by decide) ?_
                  refine lv_iload_n hx hb d_MO_put_74 rfl (lv_at hl 3 rfl) ?_
                  refine mp_call (rest := [.int (nI 8)]) hb hml (c_MO_filled l (n := zn) (by omega)) (mx_invS hx hown (hts _ tw_683) (hts _ tw_684) (hts _ tw_23) (hts _ tw_685) (by decide) (g := F0 m 75 ls [.int (nI zn), .int (nI 8)]) rfl (argsL := [.int (nI zn)]) (rest := [.int (nI 8)]) np_MO_filled rfl (by rw [hb]; exact d_MO_put_75)) hl.1 d_MO_put_75 ⟨Nat.le_of_ble_eq_true rfl, Nat.le_of_ble_eq_true rfl⟩ (Or.inl ⟨_, _, List.mem_cons_self⟩) (mk_ws tw_685 hts) (fun a9 U9 h9 => Ts_warm hts _ tw_23 a9 U9 h9) (by first | exact ⟨Nat.le_of_ble_eq_true rfl, Nat.le_of_ble_eq_true rfl⟩ | assumption) (fun v hv => ?_)
                  subst hv
                  refine W.eq (g2 := F0 m 78 ls [.int (nI (up8 zn)), .int (nI 8)]) rfl ?_
                  refine lv_iadd hx hb d_MO_put_78 ?_
                  refine mw_ti (nI_add _ _) ?_
                  refine mw_ti (y := nI (up8 (8 + zn))) ((by rw [u88])) ?_
                  refine lv_istore (lv' := [(4, .int (nI (up8 (8 + zn)))), (0, .ref y), (1, .int (nI i)), (2, .int (nI an)), (3, .int (nI zn))]) hx hb d_MO_put_79 hl (by decide) rfl (fun ls hl => ?_)
                  refine lv_aload_n hx hb d_MO_put_81 rfl (lv_at hl 1 rfl) ?_
                  refine mw_get K hI gf_MO_47_cMO hw.o rfl d_MO_put_82 ?_
                  refine lv_iload_n hx hb d_MO_put_85 rfl (lv_at hl 2 rfl) ?_
                  refine mw_lald K hI tJ hw.a11 rfl i rfl (by first | assumption | omega) (by omega) d_MO_put_86 ?_
                  refine mw_tl (y := lN (hd (mm S i))) (r11) ?_
                  refine lv_aload_n hx hb d_MO_put_87 rfl (lv_at hl 1 rfl) ?_
                  refine mw_get K hI gf_MO_51_cMO hw.o rfl d_MO_put_88 ?_
                  refine lv_iload_n hx hb d_MO_put_91 rfl (lv_at hl 2 rfl) ?_
                  refine mw_lald K hI tJ hw.a12 rfl i rfl (by first | assumption | omega) (by omega) d_MO_put_92 ?_
                  refine mw_tl (y := lN (tl (mm S i))) (r12) ?_
                  refine lv_lsub hx hb d_MO_put_93 ?_
                  refine mw_tl (lN_sub (by omega)) ?_
                  refine lv_iload hx hb d_MO_put_94 (lv_at hl 0 rfl) ?_
                  refine lv_i2l hx hb d_MO_put_96 rfl ?_
                  refine mw_tl (nI_l (by omega)) ?_
                  refine lv_ladd hx hb d_MO_put_97 ?_
                  refine mw_tl (lN_add _ _) ?_
                  refine lv_aload_n hx hb d_MO_put_98 rfl (lv_at hl 1 rfl) ?_
                  refine mw_get K hI gf_MO_27_cMO hw.o rfl d_MO_put_99 ?_
                  refine lv_iload_n hx hb d_MO_put_102 rfl (lv_at hl 2 rfl) ?_
                  refine mw_iald K hI tI hw.a5 rfl i rfl (by first | assumption | omega) (by omega) d_MO_put_103 ?_
                  refine mw_ti (y := nI (en (mm S i))) (r4) ?_
                  refine lv_i2l hx hb d_MO_put_104 rfl ?_
                  refine mw_tl (nI_l (by omega)) ?_
                  refine W.lcmp hx hb d_MO_put_105 ?_
                  refine lv_if_le (tgt := 112) hx hb d_MO_put_106 (by decide) (fun c106 => ?_) (fun c106 => ?_)
                  ·
                    rw [lg_cmp_le, lN_leL (by omega) (by omega)] at c106
                    have hsp := hsp.trans (if_neg (by omega))
                    have hloop : ∀ (n9 j : Nat), j + n9 = up8 (8 + zn) → ∀ (w1 : mw_W) (fi1 : Nat → Nat → Int32), FrM w own w1 → mo_W dA w1 own y A (nI 0) (nI (gv S)) (nI (nm S)) (nI ec) (nI kc) (nI 0) fi1 fl → mo_R fe fk ec kc fi1 fl (S_ar S (rng (ar S) (bg (mm S i)) (en (mm S i)) (hd (mm S i)) (rcB (dk S) zn (rc (mm S i)) an) j)) → ∀ (H : Heap) (locs : List Loc), mw_I D mk_cl w s.heap w1 H locs → ∀ ls : Array Slot, lv_has ls 7 [(5, .int (nI j)), (4, .int (nI (up8 (8 + zn)))), (0, .ref y), (1, .int (nI i)), (2, .int (nI an)), (3, .int (nI zn))] → W p l e { frames := 3, cells := 0, slots := 0, locals := 120 } s m ([.ref y, .int q, .int a, .int z] : List Value).toArray below meth c H locs 0 0 (mx_Q below (mw_Qc D mk_cl w s.heap.size (MM dA w own y kO (sp_PUT S q a z))) ([.ref y, .int q, .int a, .int z] : List Value).toArray s 0 0 (mw_A w s.heap.size)) (F0 m 115 ls []) := by
                      intro n9
                      induction n9 with
                      | zero =>
                        intro j hj w1 fi1 hF hw hR1 H locs hI ls hl
                        have s11 := (hR1.2.2.1 i hi).2.1
                        have s13 := (hR1.2.2.1 i hi).2.2.2.1
                        refine lv_iload hx hb d_MO_put_115 (lv_at hl 0 rfl) ?_
                        refine lv_iload hx hb d_MO_put_117 (lv_at hl 1 rfl) ?_
                        refine lv_icmp_ge (tgt := 212) hx hb d_MO_put_119 (by decide) (fun c119 => ?_) (fun c119 => ?_)
                        ·
                          refine lv_aload_n hx hb d_MO_put_212 rfl (lv_at hl 2 rfl) ?_
                          refine mw_get K hI gf_MO_47_cMO hw.o rfl d_MO_put_213 ?_
                          refine lv_iload_n hx hb d_MO_put_216 rfl (lv_at hl 3 rfl) ?_
                          refine lv_dup2_11 hx hb d_MO_put_217 rfl rfl ?_
                          refine mw_lald K hI tJ hw.a11 rfl i rfl (by first | assumption | omega) (by omega) d_MO_put_218 ?_
                          refine mw_tl (y := lN (hd (mm S i))) (s11) ?_
                          refine lv_iload hx hb d_MO_put_219 (lv_at hl 1 rfl) ?_
                          refine lv_i2l hx hb d_MO_put_221 rfl ?_
                          refine mw_tl (nI_l (by omega)) ?_
                          refine lv_ladd hx hb d_MO_put_222 ?_
                          refine mw_tl (lN_add _ _) ?_
                          refine mw_last K hI tJ hw.a11 rfl i rfl (by first | assumption | omega) (by omega) d_MO_put_223 (fun H locs hI => ?_)
                          obtain ⟨wn4, fn4, hI, hF, hw, hfn4⟩ := hw.setl (f := vp_updL (fl 11) i (lN ((hd (mm S i)) + (up8 (8 + zn))))) 11 (by decide) hI hF rfl
                          refine lv_aload_n hx hb d_MO_put_224 rfl (lv_at hl 2 rfl) ?_
                          refine mw_get K hI gf_MO_54_cMO hw.o rfl d_MO_put_225 ?_
                          refine lv_iload_n hx hb d_MO_put_228 rfl (lv_at hl 3 rfl) ?_
                          refine lv_dup2_11 hx hb d_MO_put_229 rfl rfl ?_
                          refine mw_iald K hI tI hw.a13 rfl i rfl (by first | assumption | omega) (by omega) d_MO_put_230 ?_
                          refine mw_ti (y := nI (rc (mm S i))) (s13) ?_
                          refine lv_iconst (v := nI 1) hx hb d_MO_put_231 (by decide) ?_
                          refine lv_iadd hx hb d_MO_put_232 ?_
                          refine mw_ti (nI_add _ _) ?_
                          refine mw_iast K hI tI hw.a13 rfl i rfl (by first | assumption | omega) (by omega) d_MO_put_233 (fun H locs hI => ?_)
                          obtain ⟨wn5, fn5, hI, hF, hw, hfn5⟩ := hw.seti (f := upd (fi1 13) i (nI ((rc (mm S i)) + 1))) 13 (by decide) hI hF rfl
                          refine lv_iconst (v := nI 0) hx hb d_MO_put_234 (by decide) ?_
                          refine mw_iret K hI hr hlk ?_ d_MO_put_235
                          rw [hsp]
                          refine ⟨_, _, rfl, ⟨A, fe, fk, ec, kc, _, _, hw, ?_⟩, hF, fun u hu => by cases hu; exact ⟨rfl, rfl⟩, fun k hk => by cases hk⟩
                          rw [show j = up8 (8 + zn) by omega] at hR1
                          refine hR1.ring hi (fun p => ?_) (fun p => ?_) (fun p => ?_) (fun p => ?_) (fun b hb13 _ => ?_)
                          · rw [hfn4, va_up_self]; rfl
                          · rw [hfn4, va_up_ne _ _ (by decide)]
                            split
                            · rename_i h9; rw [h9]; exact (hR1.2.2.1 i hi).2.2.1
                            · rfl
                          · rw [hfn5, va_up_self]; rfl
                          · rw [hfn5, va_up_ne _ _ (by decide)]
                            by_cases h9 : p = i
                            · rw [if_pos h9, h9]; exact (hR1.2.2.1 i hi).2.2.2.2
                            · rw [if_neg h9]
                          · rw [hfn5, va_up_ne _ _ hb13]
                        ·
                          exact absurd (nI_le (by omega) (by omega)) c119
                      | succ n9 ih =>
                        intro j hj w1 fi1 hF hw hR1 H locs hI ls hl
                        have s11 := (hR1.2.2.1 i hi).2.1
                        have s13 := (hR1.2.2.1 i hi).2.2.2.1
                        have hW1 := hW.ofA (rng_lt hW.2.2.2.2.1 (rcB_lt hW.2.2.2.1 zn (rc (mm S i)) an) (bg (mm S i)) (en (mm S i)) (hd (mm S i)) j)
                        have rest : ∀ (x : Int32), x.toBitVec.toNat % 256 = rcB (dk S) zn (rc (mm S i)) an j → ∀ (H : Heap) (locs : List Loc), mw_I D mk_cl w s.heap w1 H locs → ∀ ls : Array Slot, lv_has ls 7 [(5, .int (nI j)), (4, .int (nI (up8 (8 + zn)))), (0, .ref y), (1, .int (nI i)), (2, .int (nI an)), (3, .int (nI zn))] → W p l e { frames := 3, cells := 0, slots := 0, locals := 120 } s m ([.ref y, .int q, .int a, .int z] : List Value).toArray below meth c H locs 0 0 (mx_Q below (mw_Qc D mk_cl w s.heap.size (MM dA w own y kO (sp_PUT S q a z))) ([.ref y, .int q, .int a, .int z] : List Value).toArray s 0 0 (mw_A w s.heap.size)) (F0 m 187 ls [.int x]) := by
                          intro x hx9 H locs hI ls hl
                          refine lv_istore (lv' := [(6, .int x), (5, .int (nI j)), (4, .int (nI (up8 (8 + zn)))), (0, .ref y), (1, .int (nI i)), (2, .int (nI an)), (3, .int (nI zn))]) hx hb d_MO_put_187 hl (by decide) rfl (fun ls hl => ?_)
                          refine lv_aload_n hx hb d_MO_put_189 rfl (lv_at hl 3 rfl) ?_
                          refine lv_iload_n hx hb d_MO_put_190 rfl (lv_at hl 4 rfl) ?_
                          refine lv_aload_n hx hb d_MO_put_191 rfl (lv_at hl 3 rfl) ?_
                          refine mw_get K hI gf_MO_47_cMO hw.o rfl d_MO_put_192 ?_
                          refine lv_iload_n hx hb d_MO_put_195 rfl (lv_at hl 4 rfl) ?_
                          refine mw_lald K hI tJ hw.a11 rfl i rfl (by first | assumption | omega) (by omega) d_MO_put_196 ?_
                          refine mw_tl (y := lN (hd (mm S i))) (s11) ?_
                          refine lv_iload hx hb d_MO_put_197 (lv_at hl 1 rfl) ?_
                          refine lv_i2l hx hb d_MO_put_199 rfl ?_
                          refine mw_tl (nI_l (by omega)) ?_
                          refine lv_ladd hx hb d_MO_put_200 ?_
                          refine mw_tl (lN_add _ _) ?_
                          refine lv_iload hx hb d_MO_put_201 (lv_at hl 0 rfl) ?_
                          refine mw_call (rest := []) K hSy hP0 hI (c_MO_putRing l D dA (S := S_ar S (rng (ar S) (bg (mm S i)) (en (mm S i)) (hd (mm S i)) (rcB (dk S) zn (rc (mm S i)) an) j)) hw hR1 hW1 hi hk (cc := hd (mm S i) + j) (by omega) x) (mx_invV hx hown (hts _ tw_776) (hts _ tw_778) (hts _ tw_17) (hts _ tw_779) (by decide) (b := y) (mw_rc K hI hw.o rfl) (g := F0 m 203 ls [.int x, .long (lN ((hd (mm S i)) + j)), .int (nI i), .ref y]) rfl (argsL := [.int (nI i), .long (lN ((hd (mm S i)) + j)), .int x]) (rest := []) np_MO_putRing rfl (by rw [hb]; exact d_MO_put_203)) hl.1 d_MO_put_203 ⟨Nat.le_of_ble_eq_true rfl, Nat.le_of_ble_eq_true rfl⟩ (Or.inl ⟨_, _, List.mem_cons_self⟩) (mk_ws tw_779 hts) (fun a9 U9 h9 => Ts_warm hts _ tw_23 a9 U9 h9) ⟨Nat.le_of_ble_eq_true rfl, Nat.le_of_ble_eq_true rfl⟩ (fun v w' H locs hq hI => ?_) (fun k x w' H locs hq hI hX => ?_)
                          · obtain ⟨hq1, hF2, fi2, hw, hR2, -⟩ := hq
                            cases hq1
                            refine W.eq (g2 := F0 m 206 ls []) rfl ?_
                            refine lv_iinc (v := nI (j + 1)) (lv' := [(5, .int (nI (j + 1))), (6, .int x), (4, .int (nI (up8 (8 + zn)))), (0, .ref y), (1, .int (nI i)), (2, .int (nI an)), (3, .int (nI zn))]) hx hb d_MO_put_206 hl (k := 1) rfl (nI_add _ _) (by decide) rfl (fun ls hl => ?_)
                            refine lv_goto (tgt := 115) hx hb d_MO_put_209 (by decide) ?_
                            refine ih (j + 1) (by omega) _ fi2 (hF.trans hF2) hw ?_ H locs hI ls (lv_sub hl [0, 2, 3, 4, 5, 6] rfl)
                            rw [hx9] at hR2
                            exact hR2
                          · exact absurd hq.1 (by simp)
                        refine lv_iload hx hb d_MO_put_115 (lv_at hl 0 rfl) ?_
                        refine lv_iload hx hb d_MO_put_117 (lv_at hl 1 rfl) ?_
                        refine lv_icmp_ge (tgt := 212) hx hb d_MO_put_119 (by decide) (fun c119 => ?_) (fun c119 => ?_)
                        ·
                          exact absurd c119 (nI_ge (by omega) (by omega))
                        ·
                          refine lv_iload hx hb d_MO_put_122 (lv_at hl 0 rfl) ?_
                          refine lv_iconst (v := nI 4) hx hb d_MO_put_124 (by decide) ?_
                          refine lv_icmp_ge (tgt := 138) hx hb d_MO_put_125 (by decide) (fun c125 => ?_) (fun c125 => ?_)
                          ·
                            have h4 : 4 ≤ j := (nI_leI (by decide) (by omega)).mp c125
                            refine lv_iload hx hb d_MO_put_138 (lv_at hl 0 rfl) ?_
                            refine lv_bipush (v := nI 8) hx hb d_MO_put_140 (by decide) ?_
                            refine lv_icmp_ge (tgt := 162) hx hb d_MO_put_142 (by decide) (fun c142 => ?_) (fun c142 => ?_)
                            ·
                              have h8 : 8 ≤ j := (nI_leI (by decide) (by omega)).mp c142
                              refine lv_iload hx hb d_MO_put_162 (lv_at hl 0 rfl) ?_
                              refine lv_bipush (v := nI 8) hx hb d_MO_put_164 (by decide) ?_
                              refine lv_iload_n hx hb d_MO_put_166 rfl (lv_at hl 5 rfl) ?_
                              refine lv_iadd hx hb d_MO_put_167 ?_
                              refine mw_ti (nI_add _ _) ?_
                              refine lv_icmp_ge (tgt := 186) hx hb d_MO_put_168 (by decide) (fun c168 => ?_) (fun c168 => ?_)
                              ·
                                have h9 : 8 + zn ≤ j := (nI_leI (by omega) (by omega)).mp c168
                                refine lv_iconst (v := nI 0) hx hb d_MO_put_186 (by decide) ?_
                                refine rest (nI 0) ?_ H locs hI ls hl
                                unfold rcB
                                rw [if_neg (by omega), if_neg (by omega), if_neg (by omega)]; rfl
                              ·
                                have h9 : j < 8 + zn := Nat.lt_of_not_le (fun h => c168 ((nI_leI (by omega) (by omega)).mpr h))
                                have hdv := hW.2.2.2.1 (an + j - 8)
                                refine lv_aload_n hx hb d_MO_put_171 rfl (lv_at hl 2 rfl) ?_
                                refine mw_get K hI gf_MO_7_cMO hw.o rfl d_MO_put_172 ?_
                                refine lv_iload_n hx hb d_MO_put_175 rfl (lv_at hl 4 rfl) ?_
                                refine lv_iload hx hb d_MO_put_176 (lv_at hl 0 rfl) ?_
                                refine lv_iadd hx hb d_MO_put_178 ?_
                                refine mw_ti (nI_add _ _) ?_
                                refine lv_bipush (v := nI 8) hx hb d_MO_put_179 (by decide) ?_
                                refine lv_isub hx hb d_MO_put_181 ?_
                                refine mw_ti (pk_sub (by omega)) ?_
                                refine mw_bald K hI tB hw.a0 rfl ((an + j) - 8) rfl (by first | assumption | omega) (by omega) d_MO_put_182 ?_
                                refine mw_ti (y := sB (dk S (an + j - 8))) (hR1.1 (an + j - 8) (by omega)) ?_
                                refine lv_goto (tgt := 187) hx hb d_MO_put_183 (by decide) ?_
                                refine rest _ ?_ H locs hI ls hl
                                unfold rcB
                                rw [if_neg (by omega), if_neg (by omega), if_pos (by omega)]
                                rw [show an + (j - 8) = an + j - 8 by omega]
                                have h1 := sB_and hdv
                                have h2 : (sB (dk S (an + j - 8)) &&& nI 255) = nI ((sB (dk S (an + j - 8))).toBitVec.toNat % 256) := pk_and _ 8 (by decide)
                                rw [h1] at h2
                                exact ((nI_eq (by omega) (by have := Nat.mod_lt (sB (dk S (an + j - 8))).toBitVec.toNat (show 0 < 256 by decide); omega)).mp h2).symm
                            ·
                              have h8 : j < 8 := Nat.lt_of_not_le (fun h => c142 ((nI_leI (by decide) (by omega)).mpr h))
                              refine lv_aload_n hx hb d_MO_put_145 rfl (lv_at hl 2 rfl) ?_
                              refine mw_get K hI gf_MO_54_cMO hw.o rfl d_MO_put_146 ?_
                              refine lv_iload_n hx hb d_MO_put_149 rfl (lv_at hl 3 rfl) ?_
                              refine mw_iald K hI tI hw.a13 rfl i rfl (by first | assumption | omega) (by omega) d_MO_put_150 ?_
                              refine mw_ti (y := nI (rc (mm S i))) (s13) ?_
                              refine lv_bipush (v := nI 8) hx hb d_MO_put_151 (by decide) ?_
                              refine lv_iload hx hb d_MO_put_153 (lv_at hl 0 rfl) ?_
                              refine lv_iconst (v := nI 4) hx hb d_MO_put_155 (by decide) ?_
                              refine lv_isub hx hb d_MO_put_156 ?_
                              refine mw_ti (pk_sub (by omega)) ?_
                              refine lv_imul hx hb d_MO_put_157 ?_
                              refine mw_ti (pk_mul _ _) ?_
                              refine lv_ishr hx hb d_MO_put_158 ?_
                              refine mw_ti (y := nI (rc (mm S i) / 2 ^ (8 * (j - 4)))) (sh8 (by omega) (by omega)) ?_
                              refine lv_goto (tgt := 187) hx hb d_MO_put_159 (by decide) ?_
                              refine rest _ ?_ H locs hI ls hl
                              unfold rcB
                              have hdl := Nat.div_le_self (rc (mm S i)) (2 ^ (8 * (j - 4)))
                              rw [if_neg (by omega), if_pos h8, nI_bv (by omega)]
                          ·
                            have h4 : j < 4 := Nat.lt_of_not_le (fun h => c125 ((nI_leI (by decide) (by omega)).mpr h))
                            refine lv_iload_n hx hb d_MO_put_128 rfl (lv_at hl 5 rfl) ?_
                            refine lv_bipush (v := nI 8) hx hb d_MO_put_129 (by decide) ?_
                            refine lv_iload hx hb d_MO_put_131 (lv_at hl 0 rfl) ?_
                            refine lv_imul hx hb d_MO_put_133 ?_
                            refine mw_ti (pk_mul _ _) ?_
                            refine lv_ishr hx hb d_MO_put_134 ?_
                            refine mw_ti (y := nI (zn / 2 ^ (8 * j))) (sh8 (by omega) h4) ?_
                            refine lv_goto (tgt := 187) hx hb d_MO_put_135 (by decide) ?_
                            refine rest _ ?_ H locs hI ls hl
                            unfold rcB
                            have hdl := Nat.div_le_self zn (2 ^ (8 * j))
                            rw [if_pos h4, nI_bv (by omega)]
                    refine lv_iconst (v := nI 0) hx hb d_MO_put_112 (by decide) ?_
                    refine lv_istore (lv' := [(5, .int (nI 0)), (4, .int (nI (up8 (8 + zn)))), (0, .ref y), (1, .int (nI i)), (2, .int (nI an)), (3, .int (nI zn))]) hx hb d_MO_put_113 hl (by decide) rfl (fun ls hl => ?_)
                    exact hloop (up8 (8 + zn)) 0 (by omega) _ fi hF hw hR H locs hI ls (lv_sub hl [0, 1, 2, 3, 4, 5] rfl)
                  ·
                    rw [lg_cmp_le, lN_leL (by omega) (by omega)] at c106
                    have hsp := hsp.trans (if_pos (by omega))
                    refine lv_bipush (v := (-11)) hx hb d_MO_put_109 (by decide) ?_
                    refine mw_iret K hI hr hlk ?_ d_MO_put_111
                    rw [hsp]
                    exact ⟨_, _, rfl, ⟨A, fe, fk, ec, kc, fi, fl, hw, hR⟩, hF, fun u hu => by cases hu; exact ⟨rfl, rfl⟩, fun k hk => by cases hk⟩
                ·
                  have hb0 : bk (mm S i) = true := by
                    cases hbk : bk (mm S i) with
                    | true => rfl
                    | false => rw [hbk] at c66; exact absurd (by decide) c66
                  have hsp := hsp.trans (if_pos hb0)
                  refine lv_bipush (v := (-22)) hx hb d_MO_put_69 (by decide) ?_
                  refine mw_iret K hI hr hlk ?_ d_MO_put_71
                  rw [hsp]
                  exact ⟨_, _, rfl, ⟨A, fe, fk, ec, kc, fi, fl, hw, hR⟩, hF, fun u hu => by cases hu; exact ⟨rfl, rfl⟩, fun k hk => by cases hk⟩
              ·
                exact absurd (by decide) c55
          ·
            rw [if10.1] at c28
            exact bad (fun h => c28 h.2) H locs hI ls (lv_sub hl [] rfl)
      ·
        exact absurd (by decide) c5
    · cases hq1
      have hsp : sp_PUT S q a z = _ := if_neg h1
      refine W.eq (g2 := F0 m 5 ls [.int (nI 1)]) rfl ?_
      refine lv_if_eq (tgt := 10) hx hb d_MO_put_5 (by decide) (fun c5 => ?_) (fun c5 => ?_)
      ·
        exact absurd c5 (by decide)
      ·
        refine lv_iconst (v := nI 0) hx hb d_MO_put_8 (by decide) ?_
        refine mw_iret K hI hr hlk ?_ d_MO_put_9
        rw [hsp]
        exact ⟨_, _, rfl, ⟨A, fe, fk, ec, kc, fi, fl, hw, hR⟩, hF, (fun u hu => by cases hu), fun k hk => by cases hk; rfl⟩
  · obtain ⟨hF, ⟨h1, h2, hq1, hw⟩ | ⟨h1, hq1, hw⟩⟩ := hq <;> cases hq1

