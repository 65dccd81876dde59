theorem dX7_advance_86 : decode cX7_advance 86 = .ok (.getfield 42, 3) := by decide +kernel
theorem dX7_advance_89 : decode cX7_advance 89 = .ok (.iconst 1, 1) := by decide +kernel
theorem dX7_advance_90 : decode cX7_advance 90 = .ok (.iadd, 1) := by decide +kernel
theorem dX7_advance_91 : decode cX7_advance 91 = .ok (.putfield 42, 3) := by decide +kernel
theorem dX7_advance_94 : decode cX7_advance 94 = .ok (.goto (-28), 3) := by decide +kernel
theorem dX7_advance_97 : decode cX7_advance 97 = .ok (.aload_n 0, 1) := by decide +kernel
theorem dX7_advance_98 : decode cX7_advance 98 = .ok (.iconst 1, 1) := by decide +kernel
theorem dX7_advance_99 : decode cX7_advance 99 = .ok (.putfield 53, 3) := by decide +kernel
theorem dX7_advance_102 : decode cX7_advance 102 = .ok (.aload_n 0, 1) := by decide +kernel
theorem dX7_advance_103 : decode cX7_advance 103 = .ok (.aload_n 0, 1) := by decide +kernel
theorem dX7_advance_104 : decode cX7_advance 104 = .ok (.invokevirtual 60, 3) := by decide +kernel
theorem dX7_advance_107 : decode cX7_advance 107 = .ok (.putfield 64, 3) := by decide +kernel
theorem dX7_advance_110 : decode cX7_advance 110 = .ok (.goto 172, 3) := by decide +kernel
theorem dX7_advance_113 : decode cX7_advance 113 = .ok (.iload_n 1, 1) := by decide +kernel
theorem dX7_advance_114 : decode cX7_advance 114 = .ok (.bipush 48, 2) := by decide +kernel
theorem dX7_advance_116 : decode cX7_advance 116 = .ok (.bipush 57, 2) := by decide +kernel
theorem dX7_advance_118 : decode cX7_advance 118 = .ok (.invokestatic 56, 3) := by decide +kernel
theorem dX7_advance_121 : decode cX7_advance 121 = .ok (.ifCond .eq 136, 3) := by decide +kernel
theorem dX7_advance_124 : decode cX7_advance 124 = .ok (.aload_n 0, 1) := by decide +kernel
theorem dX7_advance_125 : decode cX7_advance 125 = .ok (.iconst 0, 1) := by decide +kernel
theorem dX7_advance_126 : decode cX7_advance 126 = .ok (.putfield 64, 3) := by decide +kernel
theorem dX7_advance_129 : decode cX7_advance 129 = .ok (.aload_n 0, 1) := by decide +kernel
theorem dX7_advance_130 : decode cX7_advance 130 = .ok (.aload_n 0, 1) := by decide +kernel
theorem dX7_advance_131 : decode cX7_advance 131 = .ok (.getfield 42, 3) := by decide +kernel
theorem dX7_advance_134 : decode cX7_advance 134 = .ok (.invokevirtual 49, 3) := by decide +kernel
theorem dX7_advance_137 : decode cX7_advance 137 = .ok (.bipush 48, 2) := by decide +kernel
theorem dX7_advance_139 : decode cX7_advance 139 = .ok (.bipush 57, 2) := by decide +kernel
theorem dX7_advance_141 : decode cX7_advance 141 = .ok (.invokestatic 56, 3) := by decide +kernel
theorem dX7_advance_144 : decode cX7_advance 144 = .ok (.ifCond .eq 59, 3) := by decide +kernel
theorem dX7_advance_147 : decode cX7_advance 147 = .ok (.aload_n 0, 1) := by decide +kernel
theorem dX7_advance_148 : decode cX7_advance 148 = .ok (.aload_n 0, 1) := by decide +kernel
theorem dX7_advance_149 : decode cX7_advance 149 = .ok (.getfield 42, 3) := by decide +kernel
theorem dX7_advance_152 : decode cX7_advance 152 = .ok (.aload_n 0, 1) := by decide +kernel
theorem dX7_advance_153 : decode cX7_advance 153 = .ok (.getfield 39, 3) := by decide +kernel
theorem dX7_advance_156 : decode cX7_advance 156 = .ok (.isub, 1) := by decide +kernel
theorem dX7_advance_157 : decode cX7_advance 157 = .ok (.iconst 2, 1) := by decide +kernel
theorem dX7_advance_158 : decode cX7_advance 158 = .ok (.if_icmp .ge 25, 3) := by decide +kernel
theorem dX7_advance_161 : decode cX7_advance 161 = .ok (.bipush 10, 2) := by decide +kernel
theorem dX7_advance_163 : decode cX7_advance 163 = .ok (.aload_n 0, 1) := by decide +kernel
theorem dX7_advance_164 : decode cX7_advance 164 = .ok (.getfield 64, 3) := by decide +kernel
theorem dX7_advance_167 : decode cX7_advance 167 = .ok (.imul, 1) := by decide +kernel
theorem dX7_advance_168 : decode cX7_advance 168 = .ok (.aload_n 0, 1) := by decide +kernel
theorem dX7_advance_169 : decode cX7_advance 169 = .ok (.aload_n 0, 1) := by decide +kernel
theorem dX7_advance_170 : decode cX7_advance 170 = .ok (.getfield 42, 3) := by decide +kernel
theorem dX7_advance_173 : decode cX7_advance 173 = .ok (.invokevirtual 49, 3) := by decide +kernel
theorem dX7_advance_176 : decode cX7_advance 176 = .ok (.iadd, 1) := by decide +kernel
theorem dX7_advance_177 : decode cX7_advance 177 = .ok (.bipush 48, 2) := by decide +kernel
theorem dX7_advance_179 : decode cX7_advance 179 = .ok (.isub, 1) := by decide +kernel
theorem dX7_advance_180 : decode cX7_advance 180 = .ok (.goto 7, 3) := by decide +kernel
theorem dX7_advance_183 : decode cX7_advance 183 = .ok (.aload_n 0, 1) := by decide +kernel
theorem dX7_advance_184 : decode cX7_advance 184 = .ok (.getfield 64, 3) := by decide +kernel
theorem dX7_advance_187 : decode cX7_advance 187 = .ok (.putfield 64, 3) := by decide +kernel
theorem dX7_advance_190 : decode cX7_advance 190 = .ok (.aload_n 0, 1) := by decide +kernel
theorem dX7_advance_191 : decode cX7_advance 191 = .ok (.dup, 1) := by decide +kernel
theorem dX7_advance_192 : decode cX7_advance 192 = .ok (.getfield 42, 3) := by decide +kernel
theorem dX7_advance_195 : decode cX7_advance 195 = .ok (.iconst 1, 1) := by decide +kernel
theorem dX7_advance_196 : decode cX7_advance 196 = .ok (.iadd, 1) := by decide +kernel
theorem dX7_advance_197 : decode cX7_advance 197 = .ok (.putfield 42, 3) := by decide +kernel
theorem dX7_advance_200 : decode cX7_advance 200 = .ok (.goto (-71), 3) := by decide +kernel
theorem dX7_advance_203 : decode cX7_advance 203 = .ok (.aload_n 0, 1) := by decide +kernel
theorem dX7_advance_204 : decode cX7_advance 204 = .ok (.getfield 42, 3) := by decide +kernel
theorem dX7_advance_207 : decode cX7_advance 207 = .ok (.aload_n 0, 1) := by decide +kernel
theorem dX7_advance_208 : decode cX7_advance 208 = .ok (.getfield 39, 3) := by decide +kernel
theorem dX7_advance_211 : decode cX7_advance 211 = .ok (.isub, 1) := by decide +kernel
theorem dX7_advance_212 : decode cX7_advance 212 = .ok (.iconst 1, 1) := by decide +kernel
theorem dX7_advance_213 : decode cX7_advance 213 = .ok (.if_icmp .eq 22, 3) := by decide +kernel
theorem dX7_advance_216 : decode cX7_advance 216 = .ok (.aload_n 0, 1) := by decide +kernel
theorem dX7_advance_217 : decode cX7_advance 217 = .ok (.getfield 42, 3) := by decide +kernel
theorem dX7_advance_220 : decode cX7_advance 220 = .ok (.aload_n 0, 1) := by decide +kernel
theorem dX7_advance_221 : decode cX7_advance 221 = .ok (.getfield 39, 3) := by decide +kernel
theorem dX7_advance_224 : decode cX7_advance 224 = .ok (.isub, 1) := by decide +kernel
theorem dX7_advance_225 : decode cX7_advance 225 = .ok (.iconst 2, 1) := by decide +kernel
theorem dX7_advance_226 : decode cX7_advance 226 = .ok (.if_icmp .ne 13, 3) := by decide +kernel
theorem dX7_advance_229 : decode cX7_advance 229 = .ok (.iload_n 1, 1) := by decide +kernel
theorem dX7_advance_230 : decode cX7_advance 230 = .ok (.bipush 48, 2) := by decide +kernel
theorem dX7_advance_232 : decode cX7_advance 232 = .ok (.if_icmp .eq 7, 3) := by decide +kernel
theorem dX7_advance_235 : decode cX7_advance 235 = .ok (.iconst 1, 1) := by decide +kernel
theorem dX7_advance_236 : decode cX7_advance 236 = .ok (.goto 4, 3) := by decide +kernel
theorem dX7_advance_239 : decode cX7_advance 239 = .ok (.iconst 0, 1) := by decide +kernel
theorem dX7_advance_240 : decode cX7_advance 240 = .ok (.istore_n 2, 1) := by decide +kernel
theorem dX7_advance_241 : decode cX7_advance 241 = .ok (.aload_n 0, 1) := by decide +kernel
theorem dX7_advance_242 : decode cX7_advance 242 = .ok (.iload_n 2, 1) := by decide +kernel
theorem dX7_advance_243 : decode cX7_advance 243 = .ok (.ifCond .eq 7, 3) := by decide +kernel
theorem dX7_advance_246 : decode cX7_advance 246 = .ok (.iconst 2, 1) := by decide +kernel
theorem dX7_advance_247 : decode cX7_advance 247 = .ok (.goto 4, 3) := by decide +kernel
theorem dX7_advance_250 : decode cX7_advance 250 = .ok (.iconst 4, 1) := by decide +kernel
theorem dX7_advance_251 : decode cX7_advance 251 = .ok (.putfield 53, 3) := by decide +kernel
theorem dX7_advance_254 : decode cX7_advance 254 = .ok (.goto 28, 3) := by decide +kernel
theorem dX7_advance_257 : decode cX7_advance 257 = .ok (.aload_n 0, 1) := by decide +kernel
theorem dX7_advance_258 : decode cX7_advance 258 = .ok (.dup, 1) := by decide +kernel
theorem dX7_advance_259 : decode cX7_advance 259 = .ok (.getfield 42, 3) := by decide +kernel
theorem dX7_advance_262 : decode cX7_advance 262 = .ok (.iconst 1, 1) := by decide +kernel
theorem dX7_advance_263 : decode cX7_advance 263 = .ok (.iadd, 1) := by decide +kernel
theorem dX7_advance_264 : decode cX7_advance 264 = .ok (.putfield 42, 3) := by decide +kernel
theorem dX7_advance_267 : decode cX7_advance 267 = .ok (.aload_n 0, 1) := by decide +kernel
theorem dX7_advance_268 : decode cX7_advance 268 = .ok (.iload_n 1, 1) := by decide +kernel
theorem dX7_advance_269 : decode cX7_advance 269 = .ok (.bipush 59, 2) := by decide +kernel
theorem dX7_advance_271 : decode cX7_advance 271 = .ok (.if_icmp .ne 7, 3) := by decide +kernel
theorem dX7_advance_274 : decode cX7_advance 274 = .ok (.iconst 3, 1) := by decide +kernel
theorem dX7_advance_275 : decode cX7_advance 275 = .ok (.goto 4, 3) := by decide +kernel
theorem dX7_advance_278 : decode cX7_advance 278 = .ok (.iconst 4, 1) := by decide +kernel
theorem dX7_advance_279 : decode cX7_advance 279 = .ok (.putfield 53, 3) := by decide +kernel
theorem dX7_advance_282 : decode cX7_advance 282 = .ok (.return_, 1) := by decide +kernel
theorem dX7_analyse_0 : decode cX7_analyse 0 = .ok (.iconst 0, 1) := by decide +kernel
theorem dX7_analyse_1 : decode cX7_analyse 1 = .ok (.istore_n 2, 1) := by decide +kernel
theorem dX7_analyse_2 : decode cX7_analyse 2 = .ok (.iload_n 2, 1) := by decide +kernel
theorem dX7_analyse_3 : decode cX7_analyse 3 = .ok (.bipush 100, 2) := by decide +kernel
theorem dX7_analyse_5 : decode cX7_analyse 5 = .ok (.if_icmp .ge 17, 3) := by decide +kernel
theorem dX7_analyse_8 : decode cX7_analyse 8 = .ok (.aload_n 0, 1) := by decide +kernel
theorem dX7_analyse_9 : decode cX7_analyse 9 = .ok (.getfield 22, 3) := by decide +kernel
theorem dX7_analyse_12 : decode cX7_analyse 12 = .ok (.iload_n 2, 1) := by decide +kernel
theorem dX7_analyse_13 : decode cX7_analyse 13 = .ok (.bipush (-9), 2) := by decide +kernel
theorem dX7_analyse_15 : decode cX7_analyse 15 = .ok (.iastore, 1) := by decide +kernel
theorem dX7_analyse_16 : decode cX7_analyse 16 = .ok (.iinc 2 1, 3) := by decide +kernel
theorem dX7_analyse_19 : decode cX7_analyse 19 = .ok (.goto (-17), 3) := by decide +kernel
theorem dX7_analyse_22 : decode cX7_analyse 22 = .ok (.iconst 0, 1) := by decide +kernel
theorem dX7_analyse_23 : decode cX7_analyse 23 = .ok (.istore_n 2, 1) := by decide +kernel
theorem dX7_analyse_24 : decode cX7_analyse 24 = .ok (.iload_n 2, 1) := by decide +kernel
theorem dX7_analyse_25 : decode cX7_analyse 25 = .ok (.aload_n 0, 1) := by decide +kernel
theorem dX7_analyse_26 : decode cX7_analyse 26 = .ok (.getfield 7, 3) := by decide +kernel
theorem dX7_analyse_29 : decode cX7_analyse 29 = .ok (.bipush 41, 2) := by decide +kernel
theorem dX7_analyse_31 : decode cX7_analyse 31 = .ok (.iaload, 1) := by decide +kernel
theorem dX7_analyse_32 : decode cX7_analyse 32 = .ok (.if_icmp .ge 51, 3) := by decide +kernel
theorem dX7_analyse_35 : decode cX7_analyse 35 = .ok (.iload_n 1, 1) := by decide +kernel
theorem dX7_analyse_36 : decode cX7_analyse 36 = .ok (.iload_n 2, 1) := by decide +kernel
theorem dX7_analyse_37 : decode cX7_analyse 37 = .ok (.invokestatic 151, 3) := by decide +kernel
theorem dX7_analyse_40 : decode cX7_analyse 40 = .ok (.ifCond .ne 37, 3) := by decide +kernel
theorem dX7_analyse_43 : decode cX7_analyse 43 = .ok (.aload_n 0, 1) := by decide +kernel
theorem dX7_analyse_44 : decode cX7_analyse 44 = .ok (.getfield 22, 3) := by decide +kernel
theorem dX7_analyse_47 : decode cX7_analyse 47 = .ok (.bipush 10, 2) := by decide +kernel
theorem dX7_analyse_49 : decode cX7_analyse 49 = .ok (.aload_n 0, 1) := by decide +kernel
theorem dX7_analyse_50 : decode cX7_analyse 50 = .ok (.getfield 7, 3) := by decide +kernel
theorem dX7_analyse_53 : decode cX7_analyse 53 = .ok (.bipush 42, 2) := by decide +kernel
theorem dX7_analyse_55 : decode cX7_analyse 55 = .ok (.iconst 2, 1) := by decide +kernel
theorem dX7_analyse_56 : decode cX7_analyse 56 = .ok (.iload_n 2, 1) := by decide +kernel
theorem dX7_analyse_57 : decode cX7_analyse 57 = .ok (.imul, 1) := by decide +kernel
theorem dX7_analyse_58 : decode cX7_analyse 58 = .ok (.iadd, 1) := by decide +kernel
theorem dX7_analyse_59 : decode cX7_analyse 59 = .ok (.iaload, 1) := by decide +kernel
theorem dX7_analyse_60 : decode cX7_analyse 60 = .ok (.imul, 1) := by decide +kernel
theorem dX7_analyse_61 : decode cX7_analyse 61 = .ok (.aload_n 0, 1) := by decide +kernel
theorem dX7_analyse_62 : decode cX7_analyse 62 = .ok (.getfield 7, 3) := by decide +kernel
theorem dX7_analyse_65 : decode cX7_analyse 65 = .ok (.bipush 42, 2) := by decide +kernel
theorem dX7_analyse_67 : decode cX7_analyse 67 = .ok (.iconst 2, 1) := by decide +kernel
theorem dX7_analyse_68 : decode cX7_analyse 68 = .ok (.iload_n 2, 1) := by decide +kernel
theorem dX7_analyse_69 : decode cX7_analyse 69 = .ok (.imul, 1) := by decide +kernel
theorem dX7_analyse_70 : decode cX7_analyse 70 = .ok (.iadd, 1) := by decide +kernel
theorem dX7_analyse_71 : decode cX7_analyse 71 = .ok (.iconst 1, 1) := by decide +kernel
theorem dX7_analyse_72 : decode cX7_analyse 72 = .ok (.iadd, 1) := by decide +kernel
theorem dX7_analyse_73 : decode cX7_analyse 73 = .ok (.iaload, 1) := by decide +kernel
theorem dX7_analyse_74 : decode cX7_analyse 74 = .ok (.iadd, 1) := by decide +kernel
theorem dX7_analyse_75 : decode cX7_analyse 75 = .ok (.iconst 0, 1) := by decide +kernel
theorem dX7_analyse_76 : decode cX7_analyse 76 = .ok (.iastore, 1) := by decide +kernel
theorem dX7_analyse_77 : decode cX7_analyse 77 = .ok (.iinc 2 1, 3) := by decide +kernel
theorem dX7_analyse_80 : decode cX7_analyse 80 = .ok (.goto (-56), 3) := by decide +kernel
theorem dX7_analyse_83 : decode cX7_analyse 83 = .ok (.aload_n 0, 1) := by decide +kernel
theorem dX7_analyse_84 : decode cX7_analyse 84 = .ok (.iconst 0, 1) := by decide +kernel
theorem dX7_analyse_85 : decode cX7_analyse 85 = .ok (.putfield 154, 3) := by decide +kernel
theorem dX7_analyse_88 : decode cX7_analyse 88 = .ok (.iconst 1, 1) := by decide +kernel
theorem dX7_analyse_89 : decode cX7_analyse 89 = .ok (.istore_n 2, 1) := by decide +kernel
theorem dX7_analyse_90 : decode cX7_analyse 90 = .ok (.aload_n 0, 1) := by decide +kernel
theorem dX7_analyse_91 : decode cX7_analyse 91 = .ok (.iload_n 2, 1) := by decide +kernel
theorem dX7_analyse_92 : decode cX7_analyse 92 = .ok (.invokevirtual 157, 3) := by decide +kernel
theorem dX7_analyse_95 : decode cX7_analyse 95 = .ok (.ifCond .eq 14, 3) := by decide +kernel
theorem dX7_analyse_98 : decode cX7_analyse 98 = .ok (.aload_n 0, 1) := by decide +kernel
theorem dX7_analyse_99 : decode cX7_analyse 99 = .ok (.iload_n 2, 1) := by decide +kernel
theorem dX7_analyse_100 : decode cX7_analyse 100 = .ok (.putfield 154, 3) := by decide +kernel
theorem dX7_analyse_103 : decode cX7_analyse 103 = .ok (.iinc 2 1, 3) := by decide +kernel
theorem dX7_analyse_106 : decode cX7_analyse 106 = .ok (.goto (-16), 3) := by decide +kernel
theorem dX7_analyse_109 : decode cX7_analyse 109 = .ok (.return_, 1) := by decide +kernel
theorem dX7_answerer_0 : decode cX7_answerer 0 = .ok (.iconst 0, 1) := by decide +kernel
theorem dX7_answerer_1 : decode cX7_answerer 1 = .ok (.istore 4, 2) := by decide +kernel
theorem dX7_answerer_3 : decode cX7_answerer 3 = .ok (.iload 4, 2) := by decide +kernel
theorem dX7_answerer_5 : decode cX7_answerer 5 = .ok (.aload_n 0, 1) := by decide +kernel
theorem dX7_answerer_6 : decode cX7_answerer 6 = .ok (.getfield 7, 3) := by decide +kernel
theorem dX7_answerer_9 : decode cX7_answerer 9 = .ok (.iconst 0, 1) := by decide +kernel
theorem dX7_answerer_10 : decode cX7_answerer 10 = .ok (.iaload, 1) := by decide +kernel
theorem dX7_answerer_11 : decode cX7_answerer 11 = .ok (.if_icmp .ge 54, 3) := by decide +kernel
theorem dX7_answerer_14 : decode cX7_answerer 14 = .ok (.aload_n 0, 1) := by decide +kernel
theorem dX7_answerer_15 : decode cX7_answerer 15 = .ok (.iload_n 1, 1) := by decide +kernel
theorem dX7_answerer_16 : decode cX7_answerer 16 = .ok (.iconst 2, 1) := by decide +kernel
theorem dX7_answerer_17 : decode cX7_answerer 17 = .ok (.invokevirtual 119, 3) := by decide +kernel
theorem dX7_answerer_20 : decode cX7_answerer 20 = .ok (.ifCond .eq 45, 3) := by decide +kernel
theorem dX7_answerer_23 : decode cX7_answerer 23 = .ok (.aload_n 0, 1) := by decide +kernel
theorem dX7_answerer_24 : decode cX7_answerer 24 = .ok (.iload 4, 2) := by decide +kernel
theorem dX7_answerer_26 : decode cX7_answerer 26 = .ok (.bipush 8, 2) := by decide +kernel
theorem dX7_answerer_28 : decode cX7_answerer 28 = .ok (.invokevirtual 119, 3) := by decide +kernel
theorem dX7_answerer_31 : decode cX7_answerer 31 = .ok (.ifCond .eq 28, 3) := by decide +kernel
theorem dX7_answerer_34 : decode cX7_answerer 34 = .ok (.aload_n 0, 1) := by decide +kernel
theorem dX7_answerer_35 : decode cX7_answerer 35 = .ok (.iload_n 1, 1) := by decide +kernel
theorem dX7_answerer_36 : decode cX7_answerer 36 = .ok (.iload 4, 2) := by decide +kernel
theorem dX7_answerer_38 : decode cX7_answerer 38 = .ok (.iload_n 3, 1) := by decide +kernel
theorem dX7_answerer_39 : decode cX7_answerer 39 = .ok (.invokevirtual 122, 3) := by decide +kernel
theorem dX7_answerer_42 : decode cX7_answerer 42 = .ok (.ifCond .eq 17, 3) := by decide +kernel
theorem dX7_answerer_45 : decode cX7_answerer 45 = .ok (.aload_n 0, 1) := by decide +kernel
theorem dX7_answerer_46 : decode cX7_answerer 46 = .ok (.iload 4, 2) := by decide +kernel
theorem dX7_answerer_48 : decode cX7_answerer 48 = .ok (.iload_n 2, 1) := by decide +kernel
theorem dX7_answerer_49 : decode cX7_answerer 49 = .ok (.iload_n 3, 1) := by decide +kernel
theorem dX7_answerer_50 : decode cX7_answerer 50 = .ok (.invokevirtual 122, 3) := by decide +kernel
theorem dX7_answerer_53 : decode cX7_answerer 53 = .ok (.ifCond .eq 6, 3) := by decide +kernel
theorem dX7_answerer_56 : decode cX7_answerer 56 = .ok (.iload 4, 2) := by decide +kernel
theorem dX7_answerer_58 : decode cX7_answerer 58 = .ok (.ireturn, 1) := by decide +kernel
theorem dX7_answerer_59 : decode cX7_answerer 59 = .ok (.iinc 4 1, 3) := by decide +kernel
theorem dX7_answerer_62 : decode cX7_answerer 62 = .ok (.goto (-59), 3) := by decide +kernel
theorem dX7_answerer_65 : decode cX7_answerer 65 = .ok (.bipush (-9), 2) := by decide +kernel
theorem dX7_answerer_67 : decode cX7_answerer 67 = .ok (.ireturn, 1) := by decide +kernel
theorem dX7_append_0 : decode cX7_append 0 = .ok (.aload_n 0, 1) := by decide +kernel
theorem dX7_append_1 : decode cX7_append 1 = .ok (.iconst 0, 1) := by decide +kernel
theorem dX7_append_2 : decode cX7_append 2 = .ok (.putfield 32, 3) := by decide +kernel
theorem dX7_append_5 : decode cX7_append 5 = .ok (.iload_n 1, 1) := by decide +kernel
theorem dX7_append_6 : decode cX7_append 6 = .ok (.iconst 0, 1) := by decide +kernel
theorem dX7_append_7 : decode cX7_append 7 = .ok (.sipush 255, 3) := by decide +kernel
theorem dX7_append_10 : decode cX7_append 10 = .ok (.invokestatic 56, 3) := by decide +kernel
theorem dX7_append_13 : decode cX7_append 13 = .ok (.ifCond .ne 5, 3) := by decide +kernel
theorem dX7_append_16 : decode cX7_append 16 = .ok (.iconst (-1), 1) := by decide +kernel
theorem dX7_append_17 : decode cX7_append 17 = .ok (.ireturn, 1) := by decide +kernel
theorem dX7_append_18 : decode cX7_append 18 = .ok (.aload_n 0, 1) := by decide +kernel
theorem dX7_append_19 : decode cX7_append 19 = .ok (.getfield 36, 3) := by decide +kernel
theorem dX7_append_22 : decode cX7_append 22 = .ok (.sipush 160, 3) := by decide +kernel
theorem dX7_append_25 : decode cX7_append 25 = .ok (.if_icmp .ne 6, 3) := by decide +kernel
theorem dX7_append_28 : decode cX7_append 28 = .ok (.bipush (-3), 2) := by decide +kernel
theorem dX7_append_30 : decode cX7_append 30 = .ok (.ireturn, 1) := by decide +kernel
theorem dX7_append_31 : decode cX7_append 31 = .ok (.aload_n 0, 1) := by decide +kernel
theorem dX7_append_32 : decode cX7_append 32 = .ok (.getfield 19, 3) := by decide +kernel
theorem dX7_append_35 : decode cX7_append 35 = .ok (.aload_n 0, 1) := by decide +kernel
theorem dX7_append_36 : decode cX7_append 36 = .ok (.getfield 36, 3) := by decide +kernel
theorem dX7_append_39 : decode cX7_append 39 = .ok (.iload_n 1, 1) := by decide +kernel
theorem dX7_append_40 : decode cX7_append 40 = .ok (.iastore, 1) := by decide +kernel
theorem dX7_append_41 : decode cX7_append 41 = .ok (.aload_n 0, 1) := by decide +kernel
theorem dX7_append_42 : decode cX7_append 42 = .ok (.dup, 1) := by decide +kernel
theorem dX7_append_43 : decode cX7_append 43 = .ok (.getfield 36, 3) := by decide +kernel
theorem dX7_append_46 : decode cX7_append 46 = .ok (.iconst 1, 1) := by decide +kernel
theorem dX7_append_47 : decode cX7_append 47 = .ok (.iadd, 1) := by decide +kernel
theorem dX7_append_48 : decode cX7_append 48 = .ok (.putfield 36, 3) := by decide +kernel
theorem dX7_append_51 : decode cX7_append 51 = .ok (.aload_n 0, 1) := by decide +kernel
theorem dX7_append_52 : decode cX7_append 52 = .ok (.getfield 36, 3) := by decide +kernel
theorem dX7_append_55 : decode cX7_append 55 = .ok (.ireturn, 1) := by decide +kernel
theorem dX7_areObjects_0 : decode cX7_areObjects 0 = .ok (.aload_n 0, 1) := by decide +kernel
theorem dX7_areObjects_1 : decode cX7_areObjects 1 = .ok (.iload_n 1, 1) := by decide +kernel
theorem dX7_areObjects_2 : decode cX7_areObjects 2 = .ok (.invokevirtual 108, 3) := by decide +kernel
theorem dX7_areObjects_5 : decode cX7_areObjects 5 = .ok (.ifCond .eq 15, 3) := by decide +kernel
theorem dX7_areObjects_8 : decode cX7_areObjects 8 = .ok (.aload_n 0, 1) := by decide +kernel
theorem dX7_areObjects_9 : decode cX7_areObjects 9 = .ok (.iload_n 2, 1) := by decide +kernel
theorem dX7_areObjects_10 : decode cX7_areObjects 10 = .ok (.invokevirtual 108, 3) := by decide +kernel
theorem dX7_areObjects_13 : decode cX7_areObjects 13 = .ok (.ifCond .eq 7, 3) := by decide +kernel
theorem dX7_areObjects_16 : decode cX7_areObjects 16 = .ok (.iconst 1, 1) := by decide +kernel
theorem dX7_areObjects_17 : decode cX7_areObjects 17 = .ok (.goto 4, 3) := by decide +kernel
theorem dX7_areObjects_20 : decode cX7_areObjects 20 = .ok (.iconst 0, 1) := by decide +kernel
theorem dX7_areObjects_21 : decode cX7_areObjects 21 = .ok (.ireturn, 1) := by decide +kernel
theorem dX7_beginRun_0 : decode cX7_beginRun 0 = .ok (.iconst 0, 1) := by decide +kernel
theorem dX7_beginRun_1 : decode cX7_beginRun 1 = .ok (.istore_n 1, 1) := by decide +kernel
theorem dX7_beginRun_2 : decode cX7_beginRun 2 = .ok (.iload_n 1, 1) := by decide +kernel
theorem dX7_beginRun_3 : decode cX7_beginRun 3 = .ok (.bipush 10, 2) := by decide +kernel
theorem dX7_beginRun_5 : decode cX7_beginRun 5 = .ok (.if_icmp .ge 19, 3) := by decide +kernel
theorem dX7_beginRun_8 : decode cX7_beginRun 8 = .ok (.aload_n 0, 1) := by decide +kernel
theorem dX7_beginRun_9 : decode cX7_beginRun 9 = .ok (.getfield 7, 3) := by decide +kernel
theorem dX7_beginRun_12 : decode cX7_beginRun 12 = .ok (.bipush 71, 2) := by decide +kernel
theorem dX7_beginRun_14 : decode cX7_beginRun 14 = .ok (.iload_n 1, 1) := by decide +kernel
theorem dX7_beginRun_15 : decode cX7_beginRun 15 = .ok (.iadd, 1) := by decide +kernel
theorem dX7_beginRun_16 : decode cX7_beginRun 16 = .ok (.iconst 0, 1) := by decide +kernel
theorem dX7_beginRun_17 : decode cX7_beginRun 17 = .ok (.iastore, 1) := by decide +kernel
theorem dX7_beginRun_18 : decode cX7_beginRun 18 = .ok (.iinc 1 1, 3) := by decide +kernel
theorem dX7_beginRun_21 : decode cX7_beginRun 21 = .ok (.goto (-19), 3) := by decide +kernel
theorem dX7_beginRun_24 : decode cX7_beginRun 24 = .ok (.iconst 0, 1) := by decide +kernel
theorem dX7_beginRun_25 : decode cX7_beginRun 25 = .ok (.istore_n 1, 1) := by decide +kernel
theorem dX7_beginRun_26 : decode cX7_beginRun 26 = .ok (.iload_n 1, 1) := by decide +kernel
theorem dX7_beginRun_27 : decode cX7_beginRun 27 = .ok (.aload_n 0, 1) := by decide +kernel
theorem dX7_beginRun_28 : decode cX7_beginRun 28 = .ok (.getfield 7, 3) := by decide +kernel
theorem dX7_beginRun_31 : decode cX7_beginRun 31 = .ok (.bipush 41, 2) := by decide +kernel
theorem dX7_beginRun_33 : decode cX7_beginRun 33 = .ok (.iaload, 1) := by decide +kernel
theorem dX7_beginRun_34 : decode cX7_beginRun 34 = .ok (.if_icmp .ge 46, 3) := by decide +kernel
theorem dX7_beginRun_37 : decode cX7_beginRun 37 = .ok (.aload_n 0, 1) := by decide +kernel
theorem dX7_beginRun_38 : decode cX7_beginRun 38 = .ok (.getfield 7, 3) := by decide +kernel
theorem dX7_beginRun_41 : decode cX7_beginRun 41 = .ok (.bipush 71, 2) := by decide +kernel
theorem dX7_beginRun_43 : decode cX7_beginRun 43 = .ok (.aload_n 0, 1) := by decide +kernel
theorem dX7_beginRun_44 : decode cX7_beginRun 44 = .ok (.getfield 7, 3) := by decide +kernel
theorem dX7_beginRun_47 : decode cX7_beginRun 47 = .ok (.bipush 42, 2) := by decide +kernel
theorem dX7_beginRun_49 : decode cX7_beginRun 49 = .ok (.iconst 2, 1) := by decide +kernel
theorem dX7_beginRun_50 : decode cX7_beginRun 50 = .ok (.iload_n 1, 1) := by decide +kernel
theorem dX7_beginRun_51 : decode cX7_beginRun 51 = .ok (.imul, 1) := by decide +kernel
theorem dX7_beginRun_52 : decode cX7_beginRun 52 = .ok (.iadd, 1) := by decide +kernel
theorem dX7_beginRun_53 : decode cX7_beginRun 53 = .ok (.iaload, 1) := by decide +kernel
theorem dX7_beginRun_54 : decode cX7_beginRun 54 = .ok (.iadd, 1) := by decide +kernel
theorem dX7_beginRun_55 : decode cX7_beginRun 55 = .ok (.dup2, 1) := by decide +kernel
theorem dX7_beginRun_56 : decode cX7_beginRun 56 = .ok (.iaload, 1) := by decide +kernel
theorem dX7_beginRun_57 : decode cX7_beginRun 57 = .ok (.iconst 1, 1) := by decide +kernel
theorem dX7_beginRun_58 : decode cX7_beginRun 58 = .ok (.aload_n 0, 1) := by decide +kernel
theorem dX7_beginRun_59 : decode cX7_beginRun 59 = .ok (.getfield 7, 3) := by decide +kernel
theorem dX7_beginRun_62 : decode cX7_beginRun 62 = .ok (.bipush 42, 2) := by decide +kernel
theorem dX7_beginRun_64 : decode cX7_beginRun 64 = .ok (.iconst 2, 1) := by decide +kernel
theorem dX7_beginRun_65 : decode cX7_beginRun 65 = .ok (.iload_n 1, 1) := by decide +kernel
theorem dX7_beginRun_66 : decode cX7_beginRun 66 = .ok (.imul, 1) := by decide +kernel
theorem dX7_beginRun_67 : decode cX7_beginRun 67 = .ok (.iadd, 1) := by decide +kernel
theorem dX7_beginRun_68 : decode cX7_beginRun 68 = .ok (.iconst 1, 1) := by decide +kernel
theorem dX7_beginRun_69 : decode cX7_beginRun 69 = .ok (.iadd, 1) := by decide +kernel
theorem dX7_beginRun_70 : decode cX7_beginRun 70 = .ok (.iaload, 1) := by decide +kernel
theorem dX7_beginRun_71 : decode cX7_beginRun 71 = .ok (.ishl, 1) := by decide +kernel
theorem dX7_beginRun_72 : decode cX7_beginRun 72 = .ok (.ior, 1) := by decide +kernel
theorem dX7_beginRun_73 : decode cX7_beginRun 73 = .ok (.iastore, 1) := by decide +kernel
theorem dX7_beginRun_74 : decode cX7_beginRun 74 = .ok (.iinc 1 1, 3) := by decide +kernel
theorem dX7_beginRun_77 : decode cX7_beginRun 77 = .ok (.goto (-51), 3) := by decide +kernel
theorem dX7_beginRun_80 : decode cX7_beginRun 80 = .ok (.return_, 1) := by decide +kernel
theorem dX7_behaviour_0 : decode cX7_behaviour 0 = .ok (.aload_n 0, 1) := by decide +kernel
theorem dX7_behaviour_1 : decode cX7_behaviour 1 = .ok (.iconst 0, 1) := by decide +kernel
theorem dX7_behaviour_2 : decode cX7_behaviour 2 = .ok (.putfield 32, 3) := by decide +kernel
theorem dX7_behaviour_5 : decode cX7_behaviour 5 = .ok (.aload_n 0, 1) := by decide +kernel
theorem dX7_behaviour_6 : decode cX7_behaviour 6 = .ok (.iload_n 1, 1) := by decide +kernel
theorem dX7_behaviour_7 : decode cX7_behaviour 7 = .ok (.iconst 0, 1) := by decide +kernel
theorem dX7_behaviour_8 : decode cX7_behaviour 8 = .ok (.invokevirtual 112, 3) := by decide +kernel
theorem dX7_behaviour_11 : decode cX7_behaviour 11 = .ok (.ifCond .eq 15, 3) := by decide +kernel
theorem dX7_behaviour_14 : decode cX7_behaviour 14 = .ok (.aload_n 0, 1) := by decide +kernel
theorem dX7_behaviour_15 : decode cX7_behaviour 15 = .ok (.getfield 7, 3) := by decide +kernel
theorem dX7_behaviour_18 : decode cX7_behaviour 18 = .ok (.bipush 11, 2) := by decide +kernel
theorem dX7_behaviour_20 : decode cX7_behaviour 20 = .ok (.iload_n 1, 1) := by decide +kernel
theorem dX7_behaviour_21 : decode cX7_behaviour 21 = .ok (.iadd, 1) := by decide +kernel
theorem dX7_behaviour_22 : decode cX7_behaviour 22 = .ok (.iaload, 1) := by decide +kernel
theorem dX7_behaviour_23 : decode cX7_behaviour 23 = .ok (.goto 4, 3) := by decide +kernel
theorem dX7_behaviour_26 : decode cX7_behaviour 26 = .ok (.iconst (-1), 1) := by decide +kernel
theorem dX7_behaviour_27 : decode cX7_behaviour 27 = .ok (.ireturn, 1) := by decide +kernel
theorem dX7_bitCount_0 : decode cX7_bitCount 0 = .ok (.iconst 0, 1) := by decide +kernel
theorem dX7_bitCount_1 : decode cX7_bitCount 1 = .ok (.istore_n 1, 1) := by decide +kernel
theorem dX7_bitCount_2 : decode cX7_bitCount 2 = .ok (.iconst 0, 1) := by decide +kernel
theorem dX7_bitCount_3 : decode cX7_bitCount 3 = .ok (.istore_n 2, 1) := by decide +kernel
theorem dX7_bitCount_4 : decode cX7_bitCount 4 = .ok (.iload_n 2, 1) := by decide +kernel
theorem dX7_bitCount_5 : decode cX7_bitCount 5 = .ok (.bipush 10, 2) := by decide +kernel
theorem dX7_bitCount_7 : decode cX7_bitCount 7 = .ok (.if_icmp .ge 17, 3) := by decide +kernel
theorem dX7_bitCount_10 : decode cX7_bitCount 10 = .ok (.iload_n 1, 1) := by decide +kernel
theorem dX7_bitCount_11 : decode cX7_bitCount 11 = .ok (.iload_n 0, 1) := by decide +kernel
theorem dX7_bitCount_12 : decode cX7_bitCount 12 = .ok (.iload_n 2, 1) := by decide +kernel
theorem dX7_bitCount_13 : decode cX7_bitCount 13 = .ok (.ishr, 1) := by decide +kernel
theorem dX7_bitCount_14 : decode cX7_bitCount 14 = .ok (.iconst 1, 1) := by decide +kernel
theorem dX7_bitCount_15 : decode cX7_bitCount 15 = .ok (.iand, 1) := by decide +kernel
theorem dX7_bitCount_16 : decode cX7_bitCount 16 = .ok (.iadd, 1) := by decide +kernel
theorem dX7_bitCount_17 : decode cX7_bitCount 17 = .ok (.istore_n 1, 1) := by decide +kernel
theorem dX7_bitCount_18 : decode cX7_bitCount 18 = .ok (.iinc 2 1, 3) := by decide +kernel
theorem dX7_bitCount_21 : decode cX7_bitCount 21 = .ok (.goto (-17), 3) := by decide +kernel
theorem dX7_bitCount_24 : decode cX7_bitCount 24 = .ok (.iload_n 1, 1) := by decide +kernel
theorem dX7_bitCount_25 : decode cX7_bitCount 25 = .ok (.ireturn, 1) := by decide +kernel
theorem dX7_change_0 : decode cX7_change 0 = .ok (.aload_n 0, 1) := by decide +kernel
theorem dX7_change_1 : decode cX7_change 1 = .ok (.getfield 7, 3) := by decide +kernel
theorem dX7_change_4 : decode cX7_change 4 = .ok (.iload_n 1, 1) := by decide +kernel
theorem dX7_change_5 : decode cX7_change 5 = .ok (.iaload, 1) := by decide +kernel
theorem dX7_change_6 : decode cX7_change 6 = .ok (.istore_n 3, 1) := by decide +kernel
theorem dX7_change_7 : decode cX7_change 7 = .ok (.iload_n 3, 1) := by decide +kernel
theorem dX7_change_8 : decode cX7_change 8 = .ok (.iload_n 2, 1) := by decide +kernel
theorem dX7_change_9 : decode cX7_change 9 = .ok (.if_icmp .ne 6, 3) := by decide +kernel
theorem dX7_change_12 : decode cX7_change 12 = .ok (.bipush (-2), 2) := by decide +kernel
theorem dX7_change_14 : decode cX7_change 14 = .ok (.ireturn, 1) := by decide +kernel
theorem dX7_change_15 : decode cX7_change 15 = .ok (.aload_n 0, 1) := by decide +kernel
theorem dX7_change_16 : decode cX7_change 16 = .ok (.invokevirtual 99, 3) := by decide +kernel
theorem dX7_change_19 : decode cX7_change 19 = .ok (.aload_n 0, 1) := by decide +kernel
theorem dX7_change_20 : decode cX7_change 20 = .ok (.getfield 7, 3) := by decide +kernel
theorem dX7_change_23 : decode cX7_change 23 = .ok (.iload_n 1, 1) := by decide +kernel
theorem dX7_change_24 : decode cX7_change 24 = .ok (.iload_n 2, 1) := by decide +kernel
theorem dX7_change_25 : decode cX7_change 25 = .ok (.iastore, 1) := by decide +kernel
theorem dX7_change_26 : decode cX7_change 26 = .ok (.aload_n 0, 1) := by decide +kernel
theorem dX7_change_27 : decode cX7_change 27 = .ok (.invokevirtual 102, 3) := by decide +kernel
theorem dX7_change_30 : decode cX7_change 30 = .ok (.iload_n 3, 1) := by decide +kernel
theorem dX7_change_31 : decode cX7_change 31 = .ok (.ireturn, 1) := by decide +kernel
theorem dX7_characterAt_0 : decode cX7_characterAt 0 = .ok (.iload_n 1, 1) := by decide +kernel
theorem dX7_characterAt_1 : decode cX7_characterAt 1 = .ok (.aload_n 0, 1) := by decide +kernel
theorem dX7_characterAt_2 : decode cX7_characterAt 2 = .ok (.getfield 36, 3) := by decide +kernel
theorem dX7_characterAt_5 : decode cX7_characterAt 5 = .ok (.if_icmp .ge 12, 3) := by decide +kernel
theorem dX7_characterAt_8 : decode cX7_characterAt 8 = .ok (.aload_n 0, 1) := by decide +kernel
theorem dX7_characterAt_9 : decode cX7_characterAt 9 = .ok (.getfield 19, 3) := by decide +kernel
theorem dX7_characterAt_12 : decode cX7_characterAt 12 = .ok (.iload_n 1, 1) := by decide +kernel
theorem dX7_characterAt_13 : decode cX7_characterAt 13 = .ok (.iaload, 1) := by decide +kernel
theorem dX7_characterAt_14 : decode cX7_characterAt 14 = .ok (.goto 4, 3) := by decide +kernel
theorem dX7_characterAt_17 : decode cX7_characterAt 17 = .ok (.iconst (-1), 1) := by decide +kernel
theorem dX7_characterAt_18 : decode cX7_characterAt 18 = .ok (.ireturn, 1) := by decide +kernel
theorem dX7_clearText_0 : decode cX7_clearText 0 = .ok (.aload_n 0, 1) := by decide +kernel
theorem dX7_clearText_1 : decode cX7_clearText 1 = .ok (.iconst 0, 1) := by decide +kernel
theorem dX7_clearText_2 : decode cX7_clearText 2 = .ok (.putfield 32, 3) := by decide +kernel
theorem dX7_clearText_5 : decode cX7_clearText 5 = .ok (.aload_n 0, 1) := by decide +kernel
theorem dX7_clearText_6 : decode cX7_clearText 6 = .ok (.getfield 36, 3) := by decide +kernel
theorem dX7_clearText_9 : decode cX7_clearText 9 = .ok (.istore_n 1, 1) := by decide +kernel
theorem dX7_clearText_10 : decode cX7_clearText 10 = .ok (.aload_n 0, 1) := by decide +kernel
theorem dX7_clearText_11 : decode cX7_clearText 11 = .ok (.iconst 0, 1) := by decide +kernel
theorem dX7_clearText_12 : decode cX7_clearText 12 = .ok (.putfield 36, 3) := by decide +kernel
theorem dX7_clearText_15 : decode cX7_clearText 15 = .ok (.iload_n 1, 1) := by decide +kernel
theorem dX7_clearText_16 : decode cX7_clearText 16 = .ok (.ireturn, 1) := by decide +kernel
theorem dX7_coarselyMayHold_0 : decode cX7_coarselyMayHold 0 = .ok (.aload_n 0, 1) := by decide +kernel
theorem dX7_coarselyMayHold_1 : decode cX7_coarselyMayHold 1 = .ok (.iconst 0, 1) := by decide +kernel
theorem dX7_coarselyMayHold_2 : decode cX7_coarselyMayHold 2 = .ok (.putfield 32, 3) := by decide +kernel
theorem dX7_coarselyMayHold_5 : decode cX7_coarselyMayHold 5 = .ok (.aload_n 0, 1) := by decide +kernel
theorem dX7_coarselyMayHold_6 : decode cX7_coarselyMayHold 6 = .ok (.iload_n 1, 1) := by decide +kernel
theorem dX7_coarselyMayHold_7 : decode cX7_coarselyMayHold 7 = .ok (.iload_n 2, 1) := by decide +kernel
theorem dX7_coarselyMayHold_8 : decode cX7_coarselyMayHold 8 = .ok (.invokevirtual 166, 3) := by decide +kernel
theorem dX7_coarselyMayHold_11 : decode cX7_coarselyMayHold 11 = .ok (.ifCond .ne 5, 3) := by decide +kernel
theorem dX7_coarselyMayHold_14 : decode cX7_coarselyMayHold 14 = .ok (.iconst (-1), 1) := by decide +kernel
theorem dX7_coarselyMayHold_15 : decode cX7_coarselyMayHold 15 = .ok (.ireturn, 1) := by decide +kernel
theorem dX7_coarselyMayHold_16 : decode cX7_coarselyMayHold 16 = .ok (.aload_n 0, 1) := by decide +kernel
theorem dX7_coarselyMayHold_17 : decode cX7_coarselyMayHold 17 = .ok (.iconst 0, 1) := by decide +kernel
theorem dX7_coarselyMayHold_18 : decode cX7_coarselyMayHold 18 = .ok (.invokevirtual 163, 3) := by decide +kernel
theorem dX7_coarselyMayHold_21 : decode cX7_coarselyMayHold 21 = .ok (.iconst 1, 1) := by decide +kernel
theorem dX7_coarselyMayHold_22 : decode cX7_coarselyMayHold 22 = .ok (.istore_n 3, 1) := by decide +kernel
theorem dX7_coarselyMayHold_23 : decode cX7_coarselyMayHold 23 = .ok (.iload_n 3, 1) := by decide +kernel
theorem dX7_coarselyMayHold_24 : decode cX7_coarselyMayHold 24 = .ok (.ifCond .eq 76, 3) := by decide +kernel
theorem dX7_coarselyMayHold_27 : decode cX7_coarselyMayHold 27 = .ok (.aload_n 0, 1) := by decide +kernel
theorem dX7_coarselyMayHold_28 : decode cX7_coarselyMayHold 28 = .ok (.invokevirtual 185, 3) := by decide +kernel
theorem dX7_coarselyMayHold_31 : decode cX7_coarselyMayHold 31 = .ok (.istore 4, 2) := by decide +kernel
theorem dX7_coarselyMayHold_33 : decode cX7_coarselyMayHold 33 = .ok (.iconst 0, 1) := by decide +kernel
theorem dX7_coarselyMayHold_34 : decode cX7_coarselyMayHold 34 = .ok (.istore 5, 2) := by decide +kernel
theorem dX7_coarselyMayHold_36 : decode cX7_coarselyMayHold 36 = .ok (.iload 5, 2) := by decide +kernel
theorem dX7_coarselyMayHold_38 : decode cX7_coarselyMayHold 38 = .ok (.bipush 100, 2) := by decide +kernel
theorem dX7_coarselyMayHold_40 : decode cX7_coarselyMayHold 40 = .ok (.if_icmp .ge 34, 3) := by decide +kernel
theorem dX7_coarselyMayHold_43 : decode cX7_coarselyMayHold 43 = .ok (.aload_n 0, 1) := by decide +kernel
theorem dX7_coarselyMayHold_44 : decode cX7_coarselyMayHold 44 = .ok (.getfield 22, 3) := by decide +kernel
theorem dX7_coarselyMayHold_47 : decode cX7_coarselyMayHold 47 = .ok (.iload 5, 2) := by decide +kernel
theorem dX7_coarselyMayHold_49 : decode cX7_coarselyMayHold 49 = .ok (.aload_n 0, 1) := by decide +kernel
theorem dX7_coarselyMayHold_50 : decode cX7_coarselyMayHold 50 = .ok (.getfield 22, 3) := by decide +kernel
theorem dX7_coarselyMayHold_53 : decode cX7_coarselyMayHold 53 = .ok (.iload 5, 2) := by decide +kernel
theorem dX7_coarselyMayHold_55 : decode cX7_coarselyMayHold 55 = .ok (.iaload, 1) := by decide +kernel
theorem dX7_coarselyMayHold_56 : decode cX7_coarselyMayHold 56 = .ok (.bipush (-9), 2) := by decide +kernel
theorem dX7_coarselyMayHold_58 : decode cX7_coarselyMayHold 58 = .ok (.if_icmp .ne 8, 3) := by decide +kernel
theorem dX7_coarselyMayHold_61 : decode cX7_coarselyMayHold 61 = .ok (.bipush (-9), 2) := by decide +kernel
theorem dX7_coarselyMayHold_63 : decode cX7_coarselyMayHold 63 = .ok (.goto 4, 3) := by decide +kernel
theorem dX7_coarselyMayHold_66 : decode cX7_coarselyMayHold 66 = .ok (.iconst 0, 1) := by decide +kernel
theorem dX7_coarselyMayHold_67 : decode cX7_coarselyMayHold 67 = .ok (.iastore, 1) := by decide +kernel
theorem dX7_coarselyMayHold_68 : decode cX7_coarselyMayHold 68 = .ok (.iinc 5 1, 3) := by decide +kernel
theorem dX7_coarselyMayHold_71 : decode cX7_coarselyMayHold 71 = .ok (.goto (-35), 3) := by decide +kernel
theorem dX7_coarselyMayHold_74 : decode cX7_coarselyMayHold 74 = .ok (.aload_n 0, 1) := by decide +kernel
theorem dX7_coarselyMayHold_75 : decode cX7_coarselyMayHold 75 = .ok (.iconst 1, 1) := by decide +kernel
theorem dX7_coarselyMayHold_76 : decode cX7_coarselyMayHold 76 = .ok (.invokevirtual 157, 3) := by decide +kernel
theorem dX7_coarselyMayHold_79 : decode cX7_coarselyMayHold 79 = .ok (.istore 5, 2) := by decide +kernel
theorem dX7_coarselyMayHold_81 : decode cX7_coarselyMayHold 81 = .ok (.iload 4, 2) := by decide +kernel
theorem dX7_coarselyMayHold_83 : decode cX7_coarselyMayHold 83 = .ok (.ifCond .ne 8, 3) := by decide +kernel
theorem dX7_coarselyMayHold_86 : decode cX7_coarselyMayHold 86 = .ok (.iload 5, 2) := by decide +kernel
theorem dX7_coarselyMayHold_88 : decode cX7_coarselyMayHold 88 = .ok (.ifCond .eq 7, 3) := by decide +kernel
theorem dX7_coarselyMayHold_91 : decode cX7_coarselyMayHold 91 = .ok (.iconst 1, 1) := by decide +kernel
theorem dX7_coarselyMayHold_92 : decode cX7_coarselyMayHold 92 = .ok (.goto 4, 3) := by decide +kernel
theorem dX7_coarselyMayHold_95 : decode cX7_coarselyMayHold 95 = .ok (.iconst 0, 1) := by decide +kernel
theorem dX7_coarselyMayHold_96 : decode cX7_coarselyMayHold 96 = .ok (.istore_n 3, 1) := by decide +kernel
theorem dX7_coarselyMayHold_97 : decode cX7_coarselyMayHold 97 = .ok (.goto (-74), 3) := by decide +kernel
theorem dX7_coarselyMayHold_100 : decode cX7_coarselyMayHold 100 = .ok (.aload_n 0, 1) := by decide +kernel
theorem dX7_coarselyMayHold_101 : decode cX7_coarselyMayHold 101 = .ok (.getfield 22, 3) := by decide +kernel
theorem dX7_coarselyMayHold_104 : decode cX7_coarselyMayHold 104 = .ok (.bipush 10, 2) := by decide +kernel
theorem dX7_coarselyMayHold_106 : decode cX7_coarselyMayHold 106 = .ok (.iload_n 1, 1) := by decide +kernel
theorem dX7_coarselyMayHold_107 : decode cX7_coarselyMayHold 107 = .ok (.imul, 1) := by decide +kernel
theorem dX7_coarselyMayHold_108 : decode cX7_coarselyMayHold 108 = .ok (.iload_n 2, 1) := by decide +kernel
theorem dX7_coarselyMayHold_109 : decode cX7_coarselyMayHold 109 = .ok (.iadd, 1) := by decide +kernel
theorem dX7_coarselyMayHold_110 : decode cX7_coarselyMayHold 110 = .ok (.iaload, 1) := by decide +kernel
theorem dX7_coarselyMayHold_111 : decode cX7_coarselyMayHold 111 = .ok (.bipush (-9), 2) := by decide +kernel
theorem dX7_coarselyMayHold_113 : decode cX7_coarselyMayHold 113 = .ok (.if_icmp .ne 7, 3) := by decide +kernel
theorem dX7_coarselyMayHold_116 : decode cX7_coarselyMayHold 116 = .ok (.iconst 0, 1) := by decide +kernel
theorem dX7_coarselyMayHold_117 : decode cX7_coarselyMayHold 117 = .ok (.goto 4, 3) := by decide +kernel
theorem dX7_coarselyMayHold_120 : decode cX7_coarselyMayHold 120 = .ok (.iconst 1, 1) := by decide +kernel
theorem dX7_coarselyMayHold_121 : decode cX7_coarselyMayHold 121 = .ok (.ireturn, 1) := by decide +kernel
theorem dX7_create_0 : decode cX7_create 0 = .ok (.aload_n 0, 1) := by decide +kernel
theorem dX7_create_1 : decode cX7_create 1 = .ok (.iconst 0, 1) := by decide +kernel
theorem dX7_create_2 : decode cX7_create 2 = .ok (.putfield 32, 3) := by decide +kernel
theorem dX7_create_5 : decode cX7_create 5 = .ok (.aload_n 0, 1) := by decide +kernel
theorem dX7_create_6 : decode cX7_create 6 = .ok (.iload_n 1, 1) := by decide +kernel
theorem dX7_create_7 : decode cX7_create 7 = .ok (.iconst 2, 1) := by decide +kernel
theorem dX7_create_8 : decode cX7_create 8 = .ok (.invokevirtual 119, 3) := by decide +kernel
theorem dX7_create_11 : decode cX7_create 11 = .ok (.ifCond .eq 12, 3) := by decide +kernel
theorem dX7_create_14 : decode cX7_create 14 = .ok (.aload_n 0, 1) := by decide +kernel
theorem dX7_create_15 : decode cX7_create 15 = .ok (.iload_n 2, 1) := by decide +kernel
theorem dX7_create_16 : decode cX7_create 16 = .ok (.iconst 3, 1) := by decide +kernel
theorem dX7_create_17 : decode cX7_create 17 = .ok (.invokevirtual 112, 3) := by decide +kernel
theorem dX7_create_20 : decode cX7_create 20 = .ok (.ifCond .ne 5, 3) := by decide +kernel
theorem dX7_create_23 : decode cX7_create 23 = .ok (.iconst (-1), 1) := by decide +kernel
theorem dX7_create_24 : decode cX7_create 24 = .ok (.ireturn, 1) := by decide +kernel
theorem dX7_create_25 : decode cX7_create 25 = .ok (.aload_n 0, 1) := by decide +kernel
theorem dX7_create_26 : decode cX7_create 26 = .ok (.iload_n 1, 1) := by decide +kernel
theorem dX7_create_27 : decode cX7_create 27 = .ok (.iload_n 2, 1) := by decide +kernel
theorem dX7_create_28 : decode cX7_create 28 = .ok (.invokevirtual 197, 3) := by decide +kernel
theorem dX7_create_31 : decode cX7_create 31 = .ok (.ifCond .ne 6, 3) := by decide +kernel
theorem dX7_create_34 : decode cX7_create 34 = .ok (.bipush (-2), 2) := by decide +kernel
theorem dX7_create_36 : decode cX7_create 36 = .ok (.ireturn, 1) := by decide +kernel
theorem dX7_create_37 : decode cX7_create 37 = .ok (.aload_n 0, 1) := by decide +kernel
theorem dX7_create_38 : decode cX7_create 38 = .ok (.getfield 7, 3) := by decide +kernel
theorem dX7_create_41 : decode cX7_create 41 = .ok (.bipush 11, 2) := by decide +kernel
theorem dX7_create_43 : decode cX7_create 43 = .ok (.iload_n 2, 1) := by decide +kernel
theorem dX7_create_44 : decode cX7_create 44 = .ok (.iadd, 1) := by decide +kernel
theorem dX7_create_45 : decode cX7_create 45 = .ok (.iaload, 1) := by decide +kernel
theorem dX7_create_46 : decode cX7_create 46 = .ok (.istore_n 3, 1) := by decide +kernel
theorem dX7_create_47 : decode cX7_create 47 = .ok (.aload_n 0, 1) := by decide +kernel
theorem dX7_create_48 : decode cX7_create 48 = .ok (.iload_n 1, 1) := by decide +kernel
theorem dX7_create_49 : decode cX7_create 49 = .ok (.iload_n 3, 1) := by decide +kernel
theorem dX7_create_50 : decode cX7_create 50 = .ok (.invokevirtual 200, 3) := by decide +kernel
theorem dX7_create_53 : decode cX7_create 53 = .ok (.istore 4, 2) := by decide +kernel
theorem dX7_create_55 : decode cX7_create 55 = .ok (.iload 4, 2) := by decide +kernel
theorem dX7_create_57 : decode cX7_create 57 = .ok (.aload_n 0, 1) := by decide +kernel
theorem dX7_create_58 : decode cX7_create 58 = .ok (.getfield 7, 3) := by decide +kernel
theorem dX7_create_61 : decode cX7_create 61 = .ok (.bipush 71, 2) := by decide +kernel
theorem dX7_create_63 : decode cX7_create 63 = .ok (.iload_n 2, 1) := by decide +kernel
theorem dX7_create_64 : decode cX7_create 64 = .ok (.iadd, 1) := by decide +kernel
theorem dX7_create_65 : decode cX7_create 65 = .ok (.iaload, 1) := by decide +kernel
theorem dX7_create_66 : decode cX7_create 66 = .ok (.aload_n 0, 1) := by decide +kernel
theorem dX7_create_67 : decode cX7_create 67 = .ok (.getfield 7, 3) := by decide +kernel
theorem dX7_create_70 : decode cX7_create 70 = .ok (.bipush 71, 2) := by decide +kernel
theorem dX7_create_72 : decode cX7_create 72 = .ok (.iload_n 3, 1) := by decide +kernel
theorem dX7_create_73 : decode cX7_create 73 = .ok (.iadd, 1) := by decide +kernel
theorem dX7_create_74 : decode cX7_create 74 = .ok (.iaload, 1) := by decide +kernel
theorem dX7_create_75 : decode cX7_create 75 = .ok (.iconst (-1), 1) := by decide +kernel
theorem dX7_create_76 : decode cX7_create 76 = .ok (.ixor, 1) := by decide +kernel
theorem dX7_create_77 : decode cX7_create 77 = .ok (.iand, 1) := by decide +kernel
theorem dX7_create_78 : decode cX7_create 78 = .ok (.invokestatic 194, 3) := by decide +kernel
theorem dX7_create_81 : decode cX7_create 81 = .ok (.iadd, 1) := by decide +kernel
theorem dX7_create_82 : decode cX7_create 82 = .ok (.istore 4, 2) := by decide +kernel
theorem dX7_create_84 : decode cX7_create 84 = .ok (.aload_n 0, 1) := by decide +kernel
theorem dX7_create_85 : decode cX7_create 85 = .ok (.getfield 7, 3) := by decide +kernel
theorem dX7_create_88 : decode cX7_create 88 = .ok (.bipush 71, 2) := by decide +kernel
theorem dX7_create_90 : decode cX7_create 90 = .ok (.iload_n 3, 1) := by decide +kernel
theorem dX7_create_91 : decode cX7_create 91 = .ok (.iadd, 1) := by decide +kernel
theorem dX7_create_92 : decode cX7_create 92 = .ok (.dup2, 1) := by decide +kernel
theorem dX7_create_93 : decode cX7_create 93 = .ok (.iaload, 1) := by decide +kernel
theorem dX7_create_94 : decode cX7_create 94 = .ok (.aload_n 0, 1) := by decide +kernel
theorem dX7_create_95 : decode cX7_create 95 = .ok (.getfield 7, 3) := by decide +kernel
theorem dX7_create_98 : decode cX7_create 98 = .ok (.bipush 71, 2) := by decide +kernel
theorem dX7_create_100 : decode cX7_create 100 = .ok (.iload_n 2, 1) := by decide +kernel
theorem dX7_create_101 : decode cX7_create 101 = .ok (.iadd, 1) := by decide +kernel
theorem dX7_create_102 : decode cX7_create 102 = .ok (.iaload, 1) := by decide +kernel
theorem dX7_create_103 : decode cX7_create 103 = .ok (.ior, 1) := by decide +kernel
theorem dX7_create_104 : decode cX7_create 104 = .ok (.iastore, 1) := by decide +kernel
theorem dX7_create_105 : decode cX7_create 105 = .ok (.iload 4, 2) := by decide +kernel
theorem dX7_create_107 : decode cX7_create 107 = .ok (.ireturn, 1) := by decide +kernel
theorem dX7_creator_0 : decode cX7_creator 0 = .ok (.iconst 0, 1) := by decide +kernel
theorem dX7_creator_1 : decode cX7_creator 1 = .ok (.istore 4, 2) := by decide +kernel
theorem dX7_creator_3 : decode cX7_creator 3 = .ok (.iload 4, 2) := by decide +kernel
theorem dX7_creator_5 : decode cX7_creator 5 = .ok (.aload_n 0, 1) := by decide +kernel
theorem dX7_creator_6 : decode cX7_creator 6 = .ok (.getfield 7, 3) := by decide +kernel
theorem dX7_creator_9 : decode cX7_creator 9 = .ok (.iconst 0, 1) := by decide +kernel
theorem dX7_creator_10 : decode cX7_creator 10 = .ok (.iaload, 1) := by decide +kernel
theorem dX7_creator_11 : decode cX7_creator 11 = .ok (.if_icmp .ge 56, 3) := by decide +kernel
theorem dX7_creator_14 : decode cX7_creator 14 = .ok (.aload_n 0, 1) := by decide +kernel
theorem dX7_creator_15 : decode cX7_creator 15 = .ok (.iload_n 1, 1) := by decide +kernel
theorem dX7_creator_16 : decode cX7_creator 16 = .ok (.iconst 2, 1) := by decide +kernel
theorem dX7_creator_17 : decode cX7_creator 17 = .ok (.invokevirtual 119, 3) := by decide +kernel
theorem dX7_creator_20 : decode cX7_creator 20 = .ok (.ifCond .eq 47, 3) := by decide +kernel
theorem dX7_creator_23 : decode cX7_creator 23 = .ok (.aload_n 0, 1) := by decide +kernel
theorem dX7_creator_24 : decode cX7_creator 24 = .ok (.iload 4, 2) := by decide +kernel
theorem dX7_creator_26 : decode cX7_creator 26 = .ok (.iconst 3, 1) := by decide +kernel
theorem dX7_creator_27 : decode cX7_creator 27 = .ok (.invokevirtual 112, 3) := by decide +kernel
theorem dX7_creator_30 : decode cX7_creator 30 = .ok (.ifCond .eq 31, 3) := by decide +kernel
theorem dX7_creator_33 : decode cX7_creator 33 = .ok (.aload_n 0, 1) := by decide +kernel
theorem dX7_creator_34 : decode cX7_creator 34 = .ok (.getfield 7, 3) := by decide +kernel
theorem dX7_creator_37 : decode cX7_creator 37 = .ok (.bipush 11, 2) := by decide +kernel
theorem dX7_creator_39 : decode cX7_creator 39 = .ok (.iload 4, 2) := by decide +kernel
theorem dX7_creator_41 : decode cX7_creator 41 = .ok (.iadd, 1) := by decide +kernel
theorem dX7_creator_42 : decode cX7_creator 42 = .ok (.iaload, 1) := by decide +kernel
theorem dX7_creator_43 : decode cX7_creator 43 = .ok (.iload_n 2, 1) := by decide +kernel
theorem dX7_creator_44 : decode cX7_creator 44 = .ok (.if_icmp .ne 17, 3) := by decide +kernel
theorem dX7_creator_47 : decode cX7_creator 47 = .ok (.aload_n 0, 1) := by decide +kernel
theorem dX7_creator_48 : decode cX7_creator 48 = .ok (.iload_n 1, 1) := by decide +kernel
theorem dX7_creator_49 : decode cX7_creator 49 = .ok (.iload 4, 2) := by decide +kernel
theorem dX7_creator_51 : decode cX7_creator 51 = .ok (.iload_n 3, 1) := by decide +kernel
theorem dX7_creator_52 : decode cX7_creator 52 = .ok (.invokevirtual 122, 3) := by decide +kernel
theorem dX7_creator_55 : decode cX7_creator 55 = .ok (.ifCond .eq 6, 3) := by decide +kernel
theorem dX7_creator_58 : decode cX7_creator 58 = .ok (.iload 4, 2) := by decide +kernel
theorem dX7_creator_60 : decode cX7_creator 60 = .ok (.ireturn, 1) := by decide +kernel
theorem dX7_creator_61 : decode cX7_creator 61 = .ok (.iinc 4 1, 3) := by decide +kernel
theorem dX7_creator_64 : decode cX7_creator 64 = .ok (.goto (-61), 3) := by decide +kernel
theorem dX7_creator_67 : decode cX7_creator 67 = .ok (.bipush (-9), 2) := by decide +kernel
theorem dX7_creator_69 : decode cX7_creator 69 = .ok (.ireturn, 1) := by decide +kernel
theorem dX7_derivationSize_0 : decode cX7_derivationSize 0 = .ok (.aload_n 0, 1) := by decide +kernel
theorem dX7_derivationSize_1 : decode cX7_derivationSize 1 = .ok (.iconst 0, 1) := by decide +kernel
theorem dX7_derivationSize_2 : decode cX7_derivationSize 2 = .ok (.putfield 32, 3) := by decide +kernel
theorem dX7_derivationSize_5 : decode cX7_derivationSize 5 = .ok (.aload_n 0, 1) := by decide +kernel
theorem dX7_derivationSize_6 : decode cX7_derivationSize 6 = .ok (.iload_n 1, 1) := by decide +kernel
theorem dX7_derivationSize_7 : decode cX7_derivationSize 7 = .ok (.iload_n 2, 1) := by decide +kernel
theorem dX7_derivationSize_8 : decode cX7_derivationSize 8 = .ok (.invokevirtual 166, 3) := by decide +kernel
theorem dX7_derivationSize_11 : decode cX7_derivationSize 11 = .ok (.ifCond .ne 5, 3) := by decide +kernel
theorem dX7_derivationSize_14 : decode cX7_derivationSize 14 = .ok (.iconst (-1), 1) := by decide +kernel
theorem dX7_derivationSize_15 : decode cX7_derivationSize 15 = .ok (.ireturn, 1) := by decide +kernel
theorem dX7_derivationSize_16 : decode cX7_derivationSize 16 = .ok (.aload_n 0, 1) := by decide +kernel
theorem dX7_derivationSize_17 : decode cX7_derivationSize 17 = .ok (.iload_n 1, 1) := by decide +kernel
theorem dX7_derivationSize_18 : decode cX7_derivationSize 18 = .ok (.iload_n 2, 1) := by decide +kernel
theorem dX7_derivationSize_19 : decode cX7_derivationSize 19 = .ok (.invokevirtual 169, 3) := by decide +kernel
theorem dX7_derivationSize_22 : decode cX7_derivationSize 22 = .ok (.bipush (-9), 2) := by decide +kernel
theorem dX7_derivationSize_24 : decode cX7_derivationSize 24 = .ok (.if_icmp .ne 6, 3) := by decide +kernel
theorem dX7_derivationSize_27 : decode cX7_derivationSize 27 = .ok (.bipush (-9), 2) := by decide +kernel
theorem dX7_derivationSize_29 : decode cX7_derivationSize 29 = .ok (.ireturn, 1) := by decide +kernel
theorem dX7_derivationSize_30 : decode cX7_derivationSize 30 = .ok (.iconst 0, 1) := by decide +kernel
theorem dX7_derivationSize_31 : decode cX7_derivationSize 31 = .ok (.istore_n 3, 1) := by decide +kernel
theorem dX7_derivationSize_32 : decode cX7_derivationSize 32 = .ok (.iload_n 3, 1) := by decide +kernel
theorem dX7_derivationSize_33 : decode cX7_derivationSize 33 = .ok (.bipush 100, 2) := by decide +kernel
theorem dX7_derivationSize_35 : decode cX7_derivationSize 35 = .ok (.if_icmp .ge 16, 3) := by decide +kernel
theorem dX7_derivationSize_38 : decode cX7_derivationSize 38 = .ok (.aload_n 0, 1) := by decide +kernel
theorem dX7_derivationSize_39 : decode cX7_derivationSize 39 = .ok (.getfield 25, 3) := by decide +kernel
theorem dX7_derivationSize_42 : decode cX7_derivationSize 42 = .ok (.iload_n 3, 1) := by decide +kernel
theorem dX7_derivationSize_43 : decode cX7_derivationSize 43 = .ok (.iconst 0, 1) := by decide +kernel
theorem dX7_derivationSize_44 : decode cX7_derivationSize 44 = .ok (.bastore, 1) := by decide +kernel
theorem dX7_derivationSize_45 : decode cX7_derivationSize 45 = .ok (.iinc 3 1, 3) := by decide +kernel
theorem dX7_derivationSize_48 : decode cX7_derivationSize 48 = .ok (.goto (-16), 3) := by decide +kernel
theorem dX7_derivationSize_51 : decode cX7_derivationSize 51 = .ok (.aload_n 0, 1) := by decide +kernel
theorem dX7_derivationSize_52 : decode cX7_derivationSize 52 = .ok (.iconst 0, 1) := by decide +kernel
theorem dX7_derivationSize_53 : decode cX7_derivationSize 53 = .ok (.putfield 172, 3) := by decide +kernel
theorem dX7_derivationSize_56 : decode cX7_derivationSize 56 = .ok (.aload_n 0, 1) := by decide +kernel
theorem dX7_derivationSize_57 : decode cX7_derivationSize 57 = .ok (.iload_n 1, 1) := by decide +kernel
theorem dX7_derivationSize_58 : decode cX7_derivationSize 58 = .ok (.iload_n 2, 1) := by decide +kernel
theorem dX7_derivationSize_59 : decode cX7_derivationSize 59 = .ok (.invokevirtual 175, 3) := by decide +kernel
theorem dX7_derivationSize_62 : decode cX7_derivationSize 62 = .ok (.iconst 0, 1) := by decide +kernel
theorem dX7_derivationSize_63 : decode cX7_derivationSize 63 = .ok (.istore_n 3, 1) := by decide +kernel
theorem dX7_derivationSize_64 : decode cX7_derivationSize 64 = .ok (.iconst 0, 1) := by decide +kernel
theorem dX7_derivationSize_65 : decode cX7_derivationSize 65 = .ok (.istore 4, 2) := by decide +kernel
theorem dX7_derivationSize_67 : decode cX7_derivationSize 67 = .ok (.iload 4, 2) := by decide +kernel
theorem dX7_derivationSize_69 : decode cX7_derivationSize 69 = .ok (.aload_n 0, 1) := by decide +kernel
theorem dX7_derivationSize_70 : decode cX7_derivationSize 70 = .ok (.getfield 172, 3) := by decide +kernel
theorem dX7_derivationSize_73 : decode cX7_derivationSize 73 = .ok (.if_icmp .ge 51, 3) := by decide +kernel
theorem dX7_derivationSize_76 : decode cX7_derivationSize 76 = .ok (.aload_n 0, 1) := by decide +kernel
theorem dX7_derivationSize_77 : decode cX7_derivationSize 77 = .ok (.getfield 22, 3) := by decide +kernel
theorem dX7_derivationSize_80 : decode cX7_derivationSize 80 = .ok (.aload_n 0, 1) := by decide +kernel
theorem dX7_derivationSize_81 : decode cX7_derivationSize 81 = .ok (.getfield 29, 3) := by decide +kernel
theorem dX7_derivationSize_84 : decode cX7_derivationSize 84 = .ok (.iload 4, 2) := by decide +kernel
theorem dX7_derivationSize_86 : decode cX7_derivationSize 86 = .ok (.iaload, 1) := by decide +kernel
theorem dX7_derivationSize_87 : decode cX7_derivationSize 87 = .ok (.iaload, 1) := by decide +kernel
theorem dX7_derivationSize_88 : decode cX7_derivationSize 88 = .ok (.ifCond .le 30, 3) := by decide +kernel
theorem dX7_derivationSize_91 : decode cX7_derivationSize 91 = .ok (.iinc 3 1, 3) := by decide +kernel
theorem dX7_derivationSize_94 : decode cX7_derivationSize 94 = .ok (.aload_n 0, 1) := by decide +kernel
theorem dX7_derivationSize_95 : decode cX7_derivationSize 95 = .ok (.aload_n 0, 1) := by decide +kernel
theorem dX7_derivationSize_96 : decode cX7_derivationSize 96 = .ok (.getfield 29, 3) := by decide +kernel
theorem dX7_derivationSize_99 : decode cX7_derivationSize 99 = .ok (.iload 4, 2) := by decide +kernel
theorem dX7_derivationSize_101 : decode cX7_derivationSize 101 = .ok (.iaload, 1) := by decide +kernel
theorem dX7_derivationSize_102 : decode cX7_derivationSize 102 = .ok (.bipush 10, 2) := by decide +kernel
theorem dX7_derivationSize_104 : decode cX7_derivationSize 104 = .ok (.idiv, 1) := by decide +kernel
theorem dX7_derivationSize_105 : decode cX7_derivationSize 105 = .ok (.aload_n 0, 1) := by decide +kernel
theorem dX7_derivationSize_106 : decode cX7_derivationSize 106 = .ok (.getfield 29, 3) := by decide +kernel
theorem dX7_derivationSize_109 : decode cX7_derivationSize 109 = .ok (.iload 4, 2) := by decide +kernel
theorem dX7_derivationSize_111 : decode cX7_derivationSize 111 = .ok (.iaload, 1) := by decide +kernel
theorem dX7_derivationSize_112 : decode cX7_derivationSize 112 = .ok (.bipush 10, 2) := by decide +kernel
theorem dX7_derivationSize_114 : decode cX7_derivationSize 114 = .ok (.irem, 1) := by decide +kernel
theorem dX7_derivationSize_115 : decode cX7_derivationSize 115 = .ok (.invokevirtual 179, 3) := by decide +kernel
theorem dX7_derivationSize_118 : decode cX7_derivationSize 118 = .ok (.iinc 4 1, 3) := by decide +kernel
theorem dX7_derivationSize_121 : decode cX7_derivationSize 121 = .ok (.goto (-54), 3) := by decide +kernel
theorem dX7_derivationSize_124 : decode cX7_derivationSize 124 = .ok (.iload_n 3, 1) := by decide +kernel
theorem dX7_derivationSize_125 : decode cX7_derivationSize 125 = .ok (.ireturn, 1) := by decide +kernel
theorem dX7_derive_0 : decode cX7_derive 0 = .ok (.bipush 10, 2) := by decide +kernel
theorem dX7_derive_2 : decode cX7_derive 2 = .ok (.iload_n 1, 1) := by decide +kernel
theorem dX7_derive_3 : decode cX7_derive 3 = .ok (.imul, 1) := by decide +kernel
theorem dX7_derive_4 : decode cX7_derive 4 = .ok (.iload_n 2, 1) := by decide +kernel
theorem dX7_derive_5 : decode cX7_derive 5 = .ok (.iadd, 1) := by decide +kernel
theorem dX7_derive_6 : decode cX7_derive 6 = .ok (.istore_n 3, 1) := by decide +kernel
theorem dX7_derive_7 : decode cX7_derive 7 = .ok (.aload_n 0, 1) := by decide +kernel
theorem dX7_derive_8 : decode cX7_derive 8 = .ok (.getfield 25, 3) := by decide +kernel
theorem dX7_derive_11 : decode cX7_derive 11 = .ok (.iload_n 3, 1) := by decide +kernel
theorem dX7_derive_12 : decode cX7_derive 12 = .ok (.baload, 1) := by decide +kernel
theorem dX7_derive_13 : decode cX7_derive 13 = .ok (.ifCond .ne 30, 3) := by decide +kernel
theorem dX7_derive_16 : decode cX7_derive 16 = .ok (.aload_n 0, 1) := by decide +kernel
theorem dX7_derive_17 : decode cX7_derive 17 = .ok (.getfield 25, 3) := by decide +kernel
theorem dX7_derive_20 : decode cX7_derive 20 = .ok (.iload_n 3, 1) := by decide +kernel
theorem dX7_derive_21 : decode cX7_derive 21 = .ok (.iconst 1, 1) := by decide +kernel
theorem dX7_derive_22 : decode cX7_derive 22 = .ok (.bastore, 1) := by decide +kernel
theorem dX7_derive_23 : decode cX7_derive 23 = .ok (.aload_n 0, 1) := by decide +kernel
theorem dX7_derive_24 : decode cX7_derive 24 = .ok (.getfield 29, 3) := by decide +kernel
theorem dX7_derive_27 : decode cX7_derive 27 = .ok (.aload_n 0, 1) := by decide +kernel
theorem dX7_derive_28 : decode cX7_derive 28 = .ok (.getfield 172, 3) := by decide +kernel
theorem dX7_derive_31 : decode cX7_derive 31 = .ok (.iload_n 3, 1) := by decide +kernel
theorem dX7_derive_32 : decode cX7_derive 32 = .ok (.iastore, 1) := by decide +kernel
theorem dX7_derive_33 : decode cX7_derive 33 = .ok (.aload_n 0, 1) := by decide +kernel
theorem dX7_derive_34 : decode cX7_derive 34 = .ok (.dup, 1) := by decide +kernel
theorem dX7_derive_35 : decode cX7_derive 35 = .ok (.getfield 172, 3) := by decide +kernel
theorem dX7_derive_38 : decode cX7_derive 38 = .ok (.iconst 1, 1) := by decide +kernel
theorem dX7_derive_39 : decode cX7_derive 39 = .ok (.iadd, 1) := by decide +kernel
theorem dX7_derive_40 : decode cX7_derive 40 = .ok (.putfield 172, 3) := by decide +kernel
theorem dX7_derive_43 : decode cX7_derive 43 = .ok (.return_, 1) := by decide +kernel
theorem dX7_derivePremises_0 : decode cX7_derivePremises 0 = .ok (.aload_n 0, 1) := by decide +kernel
theorem dX7_derivePremises_1 : decode cX7_derivePremises 1 = .ok (.getfield 22, 3) := by decide +kernel
theorem dX7_derivePremises_4 : decode cX7_derivePremises 4 = .ok (.bipush 10, 2) := by decide +kernel
theorem dX7_derivePremises_6 : decode cX7_derivePremises 6 = .ok (.iload_n 1, 1) := by decide +kernel
theorem dX7_derivePremises_7 : decode cX7_derivePremises 7 = .ok (.imul, 1) := by decide +kernel
theorem dX7_derivePremises_8 : decode cX7_derivePremises 8 = .ok (.iload_n 2, 1) := by decide +kernel
theorem dX7_derivePremises_9 : decode cX7_derivePremises 9 = .ok (.iadd, 1) := by decide +kernel
theorem dX7_derivePremises_10 : decode cX7_derivePremises 10 = .ok (.iaload, 1) := by decide +kernel
theorem dX7_derivePremises_11 : decode cX7_derivePremises 11 = .ok (.istore_n 3, 1) := by decide +kernel
theorem dX7_derivePremises_12 : decode cX7_derivePremises 12 = .ok (.aload_n 0, 1) := by decide +kernel
theorem dX7_derivePremises_13 : decode cX7_derivePremises 13 = .ok (.iload_n 1, 1) := by decide +kernel
theorem dX7_derivePremises_14 : decode cX7_derivePremises 14 = .ok (.iload_n 2, 1) := by decide +kernel
theorem dX7_derivePremises_15 : decode cX7_derivePremises 15 = .ok (.iload_n 3, 1) := by decide +kernel
theorem dX7_derivePremises_16 : decode cX7_derivePremises 16 = .ok (.invokevirtual 160, 3) := by decide +kernel
theorem dX7_derivePremises_19 : decode cX7_derivePremises 19 = .ok (.istore 4, 2) := by decide +kernel
theorem dX7_derivePremises_21 : decode cX7_derivePremises 21 = .ok (.aload_n 0, 1) := by decide +kernel
theorem dX7_derivePremises_22 : decode cX7_derivePremises 22 = .ok (.iload 4, 2) := by decide +kernel
theorem dX7_derivePremises_24 : decode cX7_derivePremises 24 = .ok (.iload_n 1, 1) := by decide +kernel
theorem dX7_derivePremises_25 : decode cX7_derivePremises 25 = .ok (.iload_n 2, 1) := by decide +kernel
theorem dX7_derivePremises_26 : decode cX7_derivePremises 26 = .ok (.iload_n 3, 1) := by decide +kernel
theorem dX7_derivePremises_27 : decode cX7_derivePremises 27 = .ok (.invokevirtual 147, 3) := by decide +kernel
theorem dX7_derivePremises_30 : decode cX7_derivePremises 30 = .ok (.istore 5, 2) := by decide +kernel
theorem dX7_derivePremises_32 : decode cX7_derivePremises 32 = .ok (.iload 4, 2) := by decide +kernel
theorem dX7_derivePremises_34 : decode cX7_derivePremises 34 = .ok (.iconst 1, 1) := by decide +kernel
theorem dX7_derivePremises_35 : decode cX7_derivePremises 35 = .ok (.if_icmp .ne 26, 3) := by decide +kernel
theorem dX7_derivePremises_38 : decode cX7_derivePremises 38 = .ok (.aload_n 0, 1) := by decide +kernel
theorem dX7_derivePremises_39 : decode cX7_derivePremises 39 = .ok (.iload 5, 2) := by decide +kernel
theorem dX7_derivePremises_41 : decode cX7_derivePremises 41 = .ok (.iload_n 1, 1) := by decide +kernel
theorem dX7_derivePremises_42 : decode cX7_derivePremises 42 = .ok (.invokevirtual 175, 3) := by decide +kernel
theorem dX7_derivePremises_45 : decode cX7_derivePremises 45 = .ok (.iload_n 2, 1) := by decide +kernel
theorem dX7_derivePremises_46 : decode cX7_derivePremises 46 = .ok (.iload 5, 2) := by decide +kernel
theorem dX7_derivePremises_48 : decode cX7_derivePremises 48 = .ok (.if_icmp .eq 109, 3) := by decide +kernel
theorem dX7_derivePremises_51 : decode cX7_derivePremises 51 = .ok (.aload_n 0, 1) := by decide +kernel
theorem dX7_derivePremises_52 : decode cX7_derivePremises 52 = .ok (.iload 5, 2) := by decide +kernel
theorem dX7_derivePremises_54 : decode cX7_derivePremises 54 = .ok (.iload_n 2, 1) := by decide +kernel
theorem dX7_derivePremises_55 : decode cX7_derivePremises 55 = .ok (.invokevirtual 175, 3) := by decide +kernel
theorem dX7_derivePremises_58 : decode cX7_derivePremises 58 = .ok (.goto 99, 3) := by decide +kernel
theorem dX7_derivePremises_61 : decode cX7_derivePremises 61 = .ok (.iload 4, 2) := by decide +kernel
theorem dX7_derivePremises_63 : decode cX7_derivePremises 63 = .ok (.iconst 2, 1) := by decide +kernel
theorem dX7_derivePremises_64 : decode cX7_derivePremises 64 = .ok (.if_icmp .ne 20, 3) := by decide +kernel
theorem dX7_derivePremises_67 : decode cX7_derivePremises 67 = .ok (.aload_n 0, 1) := by decide +kernel
theorem dX7_derivePremises_68 : decode cX7_derivePremises 68 = .ok (.iload_n 1, 1) := by decide +kernel
theorem dX7_derivePremises_69 : decode cX7_derivePremises 69 = .ok (.iload 5, 2) := by decide +kernel
theorem dX7_derivePremises_71 : decode cX7_derivePremises 71 = .ok (.invokevirtual 175, 3) := by decide +kernel
theorem dX7_derivePremises_74 : decode cX7_derivePremises 74 = .ok (.aload_n 0, 1) := by decide +kernel
theorem dX7_derivePremises_75 : decode cX7_derivePremises 75 = .ok (.iload 5, 2) := by decide +kernel
theorem dX7_derivePremises_77 : decode cX7_derivePremises 77 = .ok (.iload_n 2, 1) := by decide +kernel
theorem dX7_derivePremises_78 : decode cX7_derivePremises 78 = .ok (.invokevirtual 175, 3) := by decide +kernel
theorem dX7_derivePremises_81 : decode cX7_derivePremises 81 = .ok (.goto 76, 3) := by decide +kernel
theorem dX7_derivePremises_84 : decode cX7_derivePremises 84 = .ok (.iload 4, 2) := by decide +kernel
theorem dX7_derivePremises_86 : decode cX7_derivePremises 86 = .ok (.iconst 3, 1) := by decide +kernel
theorem dX7_derivePremises_87 : decode cX7_derivePremises 87 = .ok (.if_icmp .ne 34, 3) := by decide +kernel
theorem dX7_derivePremises_90 : decode cX7_derivePremises 90 = .ok (.aload_n 0, 1) := by decide +kernel
theorem dX7_derivePremises_91 : decode cX7_derivePremises 91 = .ok (.iload_n 1, 1) := by decide +kernel
theorem dX7_derivePremises_92 : decode cX7_derivePremises 92 = .ok (.iload 5, 2) := by decide +kernel
theorem dX7_derivePremises_94 : decode cX7_derivePremises 94 = .ok (.invokevirtual 175, 3) := by decide +kernel
theorem dX7_derivePremises_97 : decode cX7_derivePremises 97 = .ok (.aload_n 0, 1) := by decide +kernel
theorem dX7_derivePremises_98 : decode cX7_derivePremises 98 = .ok (.iload_n 1, 1) := by decide +kernel
theorem dX7_derivePremises_99 : decode cX7_derivePremises 99 = .ok (.aload_n 0, 1) := by decide +kernel
theorem dX7_derivePremises_100 : decode cX7_derivePremises 100 = .ok (.iload_n 1, 1) := by decide +kernel
theorem dX7_derivePremises_101 : decode cX7_derivePremises 101 = .ok (.aload_n 0, 1) := by decide +kernel
theorem dX7_derivePremises_102 : decode cX7_derivePremises 102 = .ok (.getfield 7, 3) := by decide +kernel
theorem dX7_derivePremises_105 : decode cX7_derivePremises 105 = .ok (.bipush 11, 2) := by decide +kernel
theorem dX7_derivePremises_107 : decode cX7_derivePremises 107 = .ok (.iload 5, 2) := by decide +kernel
theorem dX7_derivePremises_109 : decode cX7_derivePremises 109 = .ok (.iadd, 1) := by decide +kernel
theorem dX7_derivePremises_110 : decode cX7_derivePremises 110 = .ok (.iaload, 1) := by decide +kernel
theorem dX7_derivePremises_111 : decode cX7_derivePremises 111 = .ok (.iload_n 3, 1) := by decide +kernel
theorem dX7_derivePremises_112 : decode cX7_derivePremises 112 = .ok (.invokevirtual 125, 3) := by decide +kernel
theorem dX7_derivePremises_115 : decode cX7_derivePremises 115 = .ok (.invokevirtual 175, 3) := by decide +kernel
theorem dX7_derivePremises_118 : decode cX7_derivePremises 118 = .ok (.goto 39, 3) := by decide +kernel
theorem dX7_derivePremises_121 : decode cX7_derivePremises 121 = .ok (.iload 4, 2) := by decide +kernel
theorem dX7_derivePremises_123 : decode cX7_derivePremises 123 = .ok (.iconst 4, 1) := by decide +kernel
theorem dX7_derivePremises_124 : decode cX7_derivePremises 124 = .ok (.if_icmp .ne 13, 3) := by decide +kernel
theorem dX7_derivePremises_127 : decode cX7_derivePremises 127 = .ok (.aload_n 0, 1) := by decide +kernel
theorem dX7_derivePremises_128 : decode cX7_derivePremises 128 = .ok (.iload_n 1, 1) := by decide +kernel
theorem dX7_derivePremises_129 : decode cX7_derivePremises 129 = .ok (.iload 5, 2) := by decide +kernel
theorem dX7_derivePremises_131 : decode cX7_derivePremises 131 = .ok (.invokevirtual 175, 3) := by decide +kernel
theorem dX7_derivePremises_134 : decode cX7_derivePremises 134 = .ok (.goto 23, 3) := by decide +kernel
theorem dX7_derivePremises_137 : decode cX7_derivePremises 137 = .ok (.aload_n 0, 1) := by decide +kernel
theorem dX7_derivePremises_138 : decode cX7_derivePremises 138 = .ok (.iload 5, 2) := by decide +kernel
theorem dX7_derivePremises_140 : decode cX7_derivePremises 140 = .ok (.iload_n 2, 1) := by decide +kernel
theorem dX7_derivePremises_141 : decode cX7_derivePremises 141 = .ok (.invokevirtual 175, 3) := by decide +kernel
theorem dX7_derivePremises_144 : decode cX7_derivePremises 144 = .ok (.aload_n 0, 1) := by decide +kernel
theorem dX7_derivePremises_145 : decode cX7_derivePremises 145 = .ok (.aload_n 0, 1) := by decide +kernel
theorem dX7_derivePremises_146 : decode cX7_derivePremises 146 = .ok (.iload 5, 2) := by decide +kernel
theorem dX7_derivePremises_148 : decode cX7_derivePremises 148 = .ok (.iload_n 3, 1) := by decide +kernel
theorem dX7_derivePremises_149 : decode cX7_derivePremises 149 = .ok (.invokevirtual 129, 3) := by decide +kernel
theorem dX7_derivePremises_152 : decode cX7_derivePremises 152 = .ok (.iload 5, 2) := by decide +kernel
theorem dX7_derivePremises_154 : decode cX7_derivePremises 154 = .ok (.invokevirtual 175, 3) := by decide +kernel
theorem dX7_derivePremises_157 : decode cX7_derivePremises 157 = .ok (.return_, 1) := by decide +kernel
theorem dX7_does_0 : decode cX7_does 0 = .ok (.aload_n 0, 1) := by decide +kernel
theorem dX7_does_1 : decode cX7_does 1 = .ok (.iload_n 1, 1) := by decide +kernel
theorem dX7_does_2 : decode cX7_does 2 = .ok (.iconst 0, 1) := by decide +kernel
theorem dX7_does_3 : decode cX7_does 3 = .ok (.invokevirtual 112, 3) := by decide +kernel
theorem dX7_does_6 : decode cX7_does 6 = .ok (.ifCond .eq 21, 3) := by decide +kernel
theorem dX7_does_9 : decode cX7_does 9 = .ok (.aload_n 0, 1) := by decide +kernel
theorem dX7_does_10 : decode cX7_does 10 = .ok (.getfield 7, 3) := by decide +kernel
theorem dX7_does_13 : decode cX7_does 13 = .ok (.bipush 11, 2) := by decide +kernel
theorem dX7_does_15 : decode cX7_does 15 = .ok (.iload_n 1, 1) := by decide +kernel
theorem dX7_does_16 : decode cX7_does 16 = .ok (.iadd, 1) := by decide +kernel
theorem dX7_does_17 : decode cX7_does 17 = .ok (.iaload, 1) := by decide +kernel
theorem dX7_does_18 : decode cX7_does 18 = .ok (.iload_n 2, 1) := by decide +kernel
theorem dX7_does_19 : decode cX7_does 19 = .ok (.iand, 1) := by decide +kernel
theorem dX7_does_20 : decode cX7_does 20 = .ok (.ifCond .eq 7, 3) := by decide +kernel
theorem dX7_does_23 : decode cX7_does 23 = .ok (.iconst 1, 1) := by decide +kernel
theorem dX7_does_24 : decode cX7_does 24 = .ok (.goto 4, 3) := by decide +kernel
theorem dX7_does_27 : decode cX7_does 27 = .ok (.iconst 0, 1) := by decide +kernel
theorem dX7_does_28 : decode cX7_does 28 = .ok (.ireturn, 1) := by decide +kernel
theorem dX7_endower_0 : decode cX7_endower 0 = .ok (.iconst 0, 1) := by decide +kernel
theorem dX7_endower_1 : decode cX7_endower 1 = .ok (.istore 4, 2) := by decide +kernel
theorem dX7_endower_3 : decode cX7_endower 3 = .ok (.iload 4, 2) := by decide +kernel
theorem dX7_endower_5 : decode cX7_endower 5 = .ok (.aload_n 0, 1) := by decide +kernel
theorem dX7_endower_6 : decode cX7_endower 6 = .ok (.getfield 7, 3) := by decide +kernel
theorem dX7_endower_9 : decode cX7_endower 9 = .ok (.iconst 0, 1) := by decide +kernel
theorem dX7_endower_10 : decode cX7_endower 10 = .ok (.iaload, 1) := by decide +kernel
theorem dX7_endower_11 : decode cX7_endower 11 = .ok (.if_icmp .ge 59, 3) := by decide +kernel
theorem dX7_endower_14 : decode cX7_endower 14 = .ok (.aload_n 0, 1) := by decide +kernel
theorem dX7_endower_15 : decode cX7_endower 15 = .ok (.iload 4, 2) := by decide +kernel
theorem dX7_endower_17 : decode cX7_endower 17 = .ok (.iconst 3, 1) := by decide +kernel
theorem dX7_endower_18 : decode cX7_endower 18 = .ok (.invokevirtual 112, 3) := by decide +kernel
theorem dX7_endower_21 : decode cX7_endower 21 = .ok (.ifCond .eq 43, 3) := by decide +kernel
theorem dX7_endower_24 : decode cX7_endower 24 = .ok (.aload_n 0, 1) := by decide +kernel
theorem dX7_endower_25 : decode cX7_endower 25 = .ok (.getfield 7, 3) := by decide +kernel
theorem dX7_endower_28 : decode cX7_endower 28 = .ok (.bipush 11, 2) := by decide +kernel
theorem dX7_endower_30 : decode cX7_endower 30 = .ok (.iload 4, 2) := by decide +kernel
theorem dX7_endower_32 : decode cX7_endower 32 = .ok (.iadd, 1) := by decide +kernel
theorem dX7_endower_33 : decode cX7_endower 33 = .ok (.iaload, 1) := by decide +kernel
theorem dX7_endower_34 : decode cX7_endower 34 = .ok (.iload_n 1, 1) := by decide +kernel
theorem dX7_endower_35 : decode cX7_endower 35 = .ok (.if_icmp .ne 29, 3) := by decide +kernel
theorem dX7_endower_38 : decode cX7_endower 38 = .ok (.aload_n 0, 1) := by decide +kernel
theorem dX7_endower_39 : decode cX7_endower 39 = .ok (.iload 4, 2) := by decide +kernel
theorem dX7_endower_41 : decode cX7_endower 41 = .ok (.iload_n 2, 1) := by decide +kernel
theorem dX7_endower_42 : decode cX7_endower 42 = .ok (.iload_n 3, 1) := by decide +kernel
theorem dX7_endower_43 : decode cX7_endower 43 = .ok (.invokevirtual 122, 3) := by decide +kernel
theorem dX7_endower_46 : decode cX7_endower 46 = .ok (.ifCond .eq 18, 3) := by decide +kernel
theorem dX7_endower_49 : decode cX7_endower 49 = .ok (.aload_n 0, 1) := by decide +kernel
theorem dX7_endower_50 : decode cX7_endower 50 = .ok (.iload 4, 2) := by decide +kernel
theorem dX7_endower_52 : decode cX7_endower 52 = .ok (.iload_n 3, 1) := by decide +kernel
theorem dX7_endower_53 : decode cX7_endower 53 = .ok (.invokevirtual 129, 3) := by decide +kernel
theorem dX7_endower_56 : decode cX7_endower 56 = .ok (.bipush (-9), 2) := by decide +kernel
theorem dX7_endower_58 : decode cX7_endower 58 = .ok (.if_icmp .eq 6, 3) := by decide +kernel
theorem dX7_endower_61 : decode cX7_endower 61 = .ok (.iload 4, 2) := by decide +kernel
theorem dX7_endower_63 : decode cX7_endower 63 = .ok (.ireturn, 1) := by decide +kernel
theorem dX7_endower_64 : decode cX7_endower 64 = .ok (.iinc 4 1, 3) := by decide +kernel
theorem dX7_endower_67 : decode cX7_endower 67 = .ok (.goto (-64), 3) := by decide +kernel
theorem dX7_endower_70 : decode cX7_endower 70 = .ok (.bipush (-9), 2) := by decide +kernel
theorem dX7_endower_72 : decode cX7_endower 72 = .ok (.ireturn, 1) := by decide +kernel
theorem dX7_findRound_0 : decode cX7_findRound 0 = .ok (.iconst 0, 1) := by decide +kernel
theorem dX7_findRound_1 : decode cX7_findRound 1 = .ok (.istore_n 2, 1) := by decide +kernel
theorem dX7_findRound_2 : decode cX7_findRound 2 = .ok (.iconst 0, 1) := by decide +kernel
theorem dX7_findRound_3 : decode cX7_findRound 3 = .ok (.istore_n 3, 1) := by decide +kernel
theorem dX7_findRound_4 : decode cX7_findRound 4 = .ok (.iload_n 3, 1) := by decide +kernel
theorem dX7_findRound_5 : decode cX7_findRound 5 = .ok (.aload_n 0, 1) := by decide +kernel
theorem dX7_findRound_6 : decode cX7_findRound 6 = .ok (.getfield 7, 3) := by decide +kernel
theorem dX7_findRound_9 : decode cX7_findRound 9 = .ok (.iconst 0, 1) := by decide +kernel
theorem dX7_findRound_10 : decode cX7_findRound 10 = .ok (.iaload, 1) := by decide +kernel
theorem dX7_findRound_11 : decode cX7_findRound 11 = .ok (.if_icmp .ge 74, 3) := by decide +kernel
theorem dX7_findRound_14 : decode cX7_findRound 14 = .ok (.iconst 0, 1) := by decide +kernel
theorem dX7_findRound_15 : decode cX7_findRound 15 = .ok (.istore 4, 2) := by decide +kernel
theorem dX7_findRound_17 : decode cX7_findRound 17 = .ok (.iload 4, 2) := by decide +kernel
theorem dX7_findRound_19 : decode cX7_findRound 19 = .ok (.aload_n 0, 1) := by decide +kernel
theorem dX7_findRound_20 : decode cX7_findRound 20 = .ok (.getfield 7, 3) := by decide +kernel
theorem dX7_findRound_23 : decode cX7_findRound 23 = .ok (.iconst 0, 1) := by decide +kernel
theorem dX7_findRound_24 : decode cX7_findRound 24 = .ok (.iaload, 1) := by decide +kernel
theorem dX7_findRound_25 : decode cX7_findRound 25 = .ok (.if_icmp .ge 54, 3) := by decide +kernel
theorem dX7_findRound_28 : decode cX7_findRound 28 = .ok (.aload_n 0, 1) := by decide +kernel
theorem dX7_findRound_29 : decode cX7_findRound 29 = .ok (.getfield 22, 3) := by decide +kernel
theorem dX7_findRound_32 : decode cX7_findRound 32 = .ok (.bipush 10, 2) := by decide +kernel
theorem dX7_findRound_34 : decode cX7_findRound 34 = .ok (.iload_n 3, 1) := by decide +kernel
theorem dX7_findRound_35 : decode cX7_findRound 35 = .ok (.imul, 1) := by decide +kernel
theorem dX7_findRound_36 : decode cX7_findRound 36 = .ok (.iload 4, 2) := by decide +kernel
theorem dX7_findRound_38 : decode cX7_findRound 38 = .ok (.iadd, 1) := by decide +kernel
theorem dX7_findRound_39 : decode cX7_findRound 39 = .ok (.iaload, 1) := by decide +kernel
theorem dX7_findRound_40 : decode cX7_findRound 40 = .ok (.bipush (-9), 2) := by decide +kernel
theorem dX7_findRound_42 : decode cX7_findRound 42 = .ok (.if_icmp .ne 31, 3) := by decide +kernel
theorem dX7_findRound_45 : decode cX7_findRound 45 = .ok (.aload_n 0, 1) := by decide +kernel
theorem dX7_findRound_46 : decode cX7_findRound 46 = .ok (.iload_n 3, 1) := by decide +kernel
theorem dX7_findRound_47 : decode cX7_findRound 47 = .ok (.iload 4, 2) := by decide +kernel
theorem dX7_findRound_49 : decode cX7_findRound 49 = .ok (.iload_n 1, 1) := by decide +kernel
theorem dX7_findRound_50 : decode cX7_findRound 50 = .ok (.invokevirtual 160, 3) := by decide +kernel
theorem dX7_findRound_53 : decode cX7_findRound 53 = .ok (.bipush (-9), 2) := by decide +kernel
theorem dX7_findRound_55 : decode cX7_findRound 55 = .ok (.if_icmp .eq 18, 3) := by decide +kernel
theorem dX7_findRound_58 : decode cX7_findRound 58 = .ok (.aload_n 0, 1) := by decide +kernel
theorem dX7_findRound_59 : decode cX7_findRound 59 = .ok (.getfield 22, 3) := by decide +kernel
theorem dX7_findRound_62 : decode cX7_findRound 62 = .ok (.bipush 10, 2) := by decide +kernel
theorem dX7_findRound_64 : decode cX7_findRound 64 = .ok (.iload_n 3, 1) := by decide +kernel
theorem dX7_findRound_65 : decode cX7_findRound 65 = .ok (.imul, 1) := by decide +kernel
theorem dX7_findRound_66 : decode cX7_findRound 66 = .ok (.iload 4, 2) := by decide +kernel
theorem dX7_findRound_68 : decode cX7_findRound 68 = .ok (.iadd, 1) := by decide +kernel
theorem dX7_findRound_69 : decode cX7_findRound 69 = .ok (.iload_n 1, 1) := by decide +kernel
theorem dX7_findRound_70 : decode cX7_findRound 70 = .ok (.iastore, 1) := by decide +kernel
theorem dX7_findRound_71 : decode cX7_findRound 71 = .ok (.iconst 1, 1) := by decide +kernel
theorem dX7_findRound_72 : decode cX7_findRound 72 = .ok (.istore_n 2, 1) := by decide +kernel
theorem dX7_findRound_73 : decode cX7_findRound 73 = .ok (.iinc 4 1, 3) := by decide +kernel
theorem dX7_findRound_76 : decode cX7_findRound 76 = .ok (.goto (-59), 3) := by decide +kernel
theorem dX7_findRound_79 : decode cX7_findRound 79 = .ok (.iinc 3 1, 3) := by decide +kernel
theorem dX7_findRound_82 : decode cX7_findRound 82 = .ok (.goto (-78), 3) := by decide +kernel
theorem dX7_findRound_85 : decode cX7_findRound 85 = .ok (.iload_n 2, 1) := by decide +kernel
theorem dX7_findRound_86 : decode cX7_findRound 86 = .ok (.ireturn, 1) := by decide +kernel
theorem dX7_forbid_0 : decode cX7_forbid 0 = .ok (.aload_n 0, 1) := by decide +kernel
theorem dX7_forbid_1 : decode cX7_forbid 1 = .ok (.iconst 0, 1) := by decide +kernel
theorem dX7_forbid_2 : decode cX7_forbid 2 = .ok (.putfield 32, 3) := by decide +kernel
theorem dX7_forbid_5 : decode cX7_forbid 5 = .ok (.aload_n 0, 1) := by decide +kernel
theorem dX7_forbid_6 : decode cX7_forbid 6 = .ok (.iload_n 1, 1) := by decide +kernel
theorem dX7_forbid_7 : decode cX7_forbid 7 = .ok (.iload_n 2, 1) := by decide +kernel
theorem dX7_forbid_8 : decode cX7_forbid 8 = .ok (.invokevirtual 166, 3) := by decide +kernel
theorem dX7_forbid_11 : decode cX7_forbid 11 = .ok (.ifCond .ne 5, 3) := by decide +kernel
theorem dX7_forbid_14 : decode cX7_forbid 14 = .ok (.iconst (-1), 1) := by decide +kernel
theorem dX7_forbid_15 : decode cX7_forbid 15 = .ok (.ireturn, 1) := by decide +kernel
theorem dX7_forbid_16 : decode cX7_forbid 16 = .ok (.aload_n 0, 1) := by decide +kernel
theorem dX7_forbid_17 : decode cX7_forbid 17 = .ok (.iload_n 1, 1) := by decide +kernel
theorem dX7_forbid_18 : decode cX7_forbid 18 = .ok (.iload_n 2, 1) := by decide +kernel
theorem dX7_forbid_19 : decode cX7_forbid 19 = .ok (.invokevirtual 188, 3) := by decide +kernel
theorem dX7_forbid_22 : decode cX7_forbid 22 = .ok (.bipush (-9), 2) := by decide +kernel
theorem dX7_forbid_24 : decode cX7_forbid 24 = .ok (.if_icmp .eq 6, 3) := by decide +kernel
theorem dX7_forbid_27 : decode cX7_forbid 27 = .ok (.bipush (-2), 2) := by decide +kernel
theorem dX7_forbid_29 : decode cX7_forbid 29 = .ok (.ireturn, 1) := by decide +kernel
theorem dX7_forbid_30 : decode cX7_forbid 30 = .ok (.aload_n 0, 1) := by decide +kernel
theorem dX7_forbid_31 : decode cX7_forbid 31 = .ok (.getfield 7, 3) := by decide +kernel
theorem dX7_forbid_34 : decode cX7_forbid 34 = .ok (.bipush 62, 2) := by decide +kernel
theorem dX7_forbid_36 : decode cX7_forbid 36 = .ok (.iaload, 1) := by decide +kernel
theorem dX7_forbid_37 : decode cX7_forbid 37 = .ok (.iconst 4, 1) := by decide +kernel
theorem dX7_forbid_38 : decode cX7_forbid 38 = .ok (.if_icmp .ne 6, 3) := by decide +kernel
theorem dX7_forbid_41 : decode cX7_forbid 41 = .ok (.bipush (-3), 2) := by decide +kernel
theorem dX7_forbid_43 : decode cX7_forbid 43 = .ok (.ireturn, 1) := by decide +kernel
theorem dX7_forbid_44 : decode cX7_forbid 44 = .ok (.aload_n 0, 1) := by decide +kernel
theorem dX7_forbid_45 : decode cX7_forbid 45 = .ok (.invokevirtual 99, 3) := by decide +kernel
theorem dX7_forbid_48 : decode cX7_forbid 48 = .ok (.aload_n 0, 1) := by decide +kernel
theorem dX7_forbid_49 : decode cX7_forbid 49 = .ok (.getfield 7, 3) := by decide +kernel
theorem dX7_forbid_52 : decode cX7_forbid 52 = .ok (.bipush 63, 2) := by decide +kernel
theorem dX7_forbid_54 : decode cX7_forbid 54 = .ok (.iconst 2, 1) := by decide +kernel
theorem dX7_forbid_55 : decode cX7_forbid 55 = .ok (.aload_n 0, 1) := by decide +kernel
theorem dX7_forbid_56 : decode cX7_forbid 56 = .ok (.getfield 7, 3) := by decide +kernel
theorem dX7_forbid_59 : decode cX7_forbid 59 = .ok (.bipush 62, 2) := by decide +kernel
theorem dX7_forbid_61 : decode cX7_forbid 61 = .ok (.iaload, 1) := by decide +kernel
theorem dX7_forbid_62 : decode cX7_forbid 62 = .ok (.imul, 1) := by decide +kernel
theorem dX7_forbid_63 : decode cX7_forbid 63 = .ok (.iadd, 1) := by decide +kernel
theorem dX7_forbid_64 : decode cX7_forbid 64 = .ok (.iload_n 1, 1) := by decide +kernel
theorem dX7_forbid_65 : decode cX7_forbid 65 = .ok (.iastore, 1) := by decide +kernel
theorem dX7_forbid_66 : decode cX7_forbid 66 = .ok (.aload_n 0, 1) := by decide +kernel
theorem dX7_forbid_67 : decode cX7_forbid 67 = .ok (.getfield 7, 3) := by decide +kernel
theorem dX7_forbid_70 : decode cX7_forbid 70 = .ok (.bipush 63, 2) := by decide +kernel
theorem dX7_forbid_72 : decode cX7_forbid 72 = .ok (.iconst 2, 1) := by decide +kernel
theorem dX7_forbid_73 : decode cX7_forbid 73 = .ok (.aload_n 0, 1) := by decide +kernel
theorem dX7_forbid_74 : decode cX7_forbid 74 = .ok (.getfield 7, 3) := by decide +kernel
theorem dX7_forbid_77 : decode cX7_forbid 77 = .ok (.bipush 62, 2) := by decide +kernel
theorem dX7_forbid_79 : decode cX7_forbid 79 = .ok (.iaload, 1) := by decide +kernel
theorem dX7_forbid_80 : decode cX7_forbid 80 = .ok (.imul, 1) := by decide +kernel
theorem dX7_forbid_81 : decode cX7_forbid 81 = .ok (.iadd, 1) := by decide +kernel
theorem dX7_forbid_82 : decode cX7_forbid 82 = .ok (.iconst 1, 1) := by decide +kernel
theorem dX7_forbid_83 : decode cX7_forbid 83 = .ok (.iadd, 1) := by decide +kernel
theorem dX7_forbid_84 : decode cX7_forbid 84 = .ok (.iload_n 2, 1) := by decide +kernel
theorem dX7_forbid_85 : decode cX7_forbid 85 = .ok (.iastore, 1) := by decide +kernel
theorem dX7_forbid_86 : decode cX7_forbid 86 = .ok (.aload_n 0, 1) := by decide +kernel
theorem dX7_forbid_87 : decode cX7_forbid 87 = .ok (.getfield 7, 3) := by decide +kernel
theorem dX7_forbid_90 : decode cX7_forbid 90 = .ok (.bipush 62, 2) := by decide +kernel
theorem dX7_forbid_92 : decode cX7_forbid 92 = .ok (.dup2, 1) := by decide +kernel
theorem dX7_forbid_93 : decode cX7_forbid 93 = .ok (.iaload, 1) := by decide +kernel
theorem dX7_forbid_94 : decode cX7_forbid 94 = .ok (.iconst 1, 1) := by decide +kernel
theorem dX7_forbid_95 : decode cX7_forbid 95 = .ok (.iadd, 1) := by decide +kernel
theorem dX7_forbid_96 : decode cX7_forbid 96 = .ok (.iastore, 1) := by decide +kernel
theorem dX7_forbid_97 : decode cX7_forbid 97 = .ok (.aload_n 0, 1) := by decide +kernel
theorem dX7_forbid_98 : decode cX7_forbid 98 = .ok (.getfield 7, 3) := by decide +kernel
theorem dX7_forbid_101 : decode cX7_forbid 101 = .ok (.bipush 62, 2) := by decide +kernel
theorem dX7_forbid_103 : decode cX7_forbid 103 = .ok (.iaload, 1) := by decide +kernel
theorem dX7_forbid_104 : decode cX7_forbid 104 = .ok (.ireturn, 1) := by decide +kernel
theorem dX7_give_0 : decode cX7_give 0 = .ok (.aload_n 0, 1) := by decide +kernel
theorem dX7_give_1 : decode cX7_give 1 = .ok (.iconst 0, 1) := by decide +kernel
theorem dX7_give_2 : decode cX7_give 2 = .ok (.putfield 32, 3) := by decide +kernel
theorem dX7_give_5 : decode cX7_give 5 = .ok (.aload_n 0, 1) := by decide +kernel
theorem dX7_give_6 : decode cX7_give 6 = .ok (.iload_n 1, 1) := by decide +kernel
theorem dX7_give_7 : decode cX7_give 7 = .ok (.iconst 1, 1) := by decide +kernel
theorem dX7_give_8 : decode cX7_give 8 = .ok (.invokevirtual 119, 3) := by decide +kernel
theorem dX7_give_11 : decode cX7_give 11 = .ok (.ifCond .eq 20, 3) := by decide +kernel
theorem dX7_give_14 : decode cX7_give 14 = .ok (.aload_n 0, 1) := by decide +kernel
theorem dX7_give_15 : decode cX7_give 15 = .ok (.iload_n 2, 1) := by decide +kernel
theorem dX7_give_16 : decode cX7_give 16 = .ok (.iconst 4, 1) := by decide +kernel
theorem dX7_give_17 : decode cX7_give 17 = .ok (.invokevirtual 119, 3) := by decide +kernel
theorem dX7_give_20 : decode cX7_give 20 = .ok (.ifCond .eq 11, 3) := by decide +kernel
theorem dX7_give_23 : decode cX7_give 23 = .ok (.aload_n 0, 1) := by decide +kernel
theorem dX7_give_24 : decode cX7_give 24 = .ok (.iload_n 3, 1) := by decide +kernel
theorem dX7_give_25 : decode cX7_give 25 = .ok (.invokevirtual 108, 3) := by decide +kernel
theorem dX7_give_28 : decode cX7_give 28 = .ok (.ifCond .ne 5, 3) := by decide +kernel
theorem dX7_give_31 : decode cX7_give 31 = .ok (.iconst (-1), 1) := by decide +kernel
theorem dX7_give_32 : decode cX7_give 32 = .ok (.ireturn, 1) := by decide +kernel
theorem dX7_give_33 : decode cX7_give 33 = .ok (.aload_n 0, 1) := by decide +kernel
theorem dX7_give_34 : decode cX7_give 34 = .ok (.iload_n 1, 1) := by decide +kernel
theorem dX7_give_35 : decode cX7_give 35 = .ok (.iload_n 2, 1) := by decide +kernel
theorem dX7_give_36 : decode cX7_give 36 = .ok (.invokevirtual 197, 3) := by decide +kernel
theorem dX7_give_39 : decode cX7_give 39 = .ok (.ifCond .eq 26, 3) := by decide +kernel
theorem dX7_give_42 : decode cX7_give 42 = .ok (.iload_n 3, 1) := by decide +kernel
theorem dX7_give_43 : decode cX7_give 43 = .ok (.iload_n 1, 1) := by decide +kernel
theorem dX7_give_44 : decode cX7_give 44 = .ok (.if_icmp .eq 12, 3) := by decide +kernel
theorem dX7_give_47 : decode cX7_give 47 = .ok (.aload_n 0, 1) := by decide +kernel
theorem dX7_give_48 : decode cX7_give 48 = .ok (.iload_n 1, 1) := by decide +kernel
theorem dX7_give_49 : decode cX7_give 49 = .ok (.iload_n 3, 1) := by decide +kernel
theorem dX7_give_50 : decode cX7_give 50 = .ok (.invokevirtual 197, 3) := by decide +kernel
theorem dX7_give_53 : decode cX7_give 53 = .ok (.ifCond .eq 12, 3) := by decide +kernel
theorem dX7_give_56 : decode cX7_give 56 = .ok (.aload_n 0, 1) := by decide +kernel
theorem dX7_give_57 : decode cX7_give 57 = .ok (.iload_n 2, 1) := by decide +kernel
theorem dX7_give_58 : decode cX7_give 58 = .ok (.iload_n 3, 1) := by decide +kernel
theorem dX7_give_59 : decode cX7_give 59 = .ok (.invokevirtual 200, 3) := by decide +kernel
theorem dX7_give_62 : decode cX7_give 62 = .ok (.goto 5, 3) := by decide +kernel
theorem dX7_give_65 : decode cX7_give 65 = .ok (.bipush (-2), 2) := by decide +kernel
theorem dX7_give_67 : decode cX7_give 67 = .ok (.ireturn, 1) := by decide +kernel
theorem dX7_giver_0 : decode cX7_giver 0 = .ok (.iconst 0, 1) := by decide +kernel
theorem dX7_giver_1 : decode cX7_giver 1 = .ok (.istore 4, 2) := by decide +kernel
theorem dX7_giver_3 : decode cX7_giver 3 = .ok (.iload 4, 2) := by decide +kernel
theorem dX7_giver_5 : decode cX7_giver 5 = .ok (.aload_n 0, 1) := by decide +kernel
theorem dX7_giver_6 : decode cX7_giver 6 = .ok (.getfield 7, 3) := by decide +kernel
theorem dX7_giver_9 : decode cX7_giver 9 = .ok (.iconst 0, 1) := by decide +kernel
theorem dX7_giver_10 : decode cX7_giver 10 = .ok (.iaload, 1) := by decide +kernel
theorem dX7_giver_11 : decode cX7_giver 11 = .ok (.if_icmp .ge 59, 3) := by decide +kernel
theorem dX7_giver_14 : decode cX7_giver 14 = .ok (.aload_n 0, 1) := by decide +kernel
theorem dX7_giver_15 : decode cX7_giver 15 = .ok (.iload_n 1, 1) := by decide +kernel
theorem dX7_giver_16 : decode cX7_giver 16 = .ok (.iconst 4, 1) := by decide +kernel
theorem dX7_giver_17 : decode cX7_giver 17 = .ok (.invokevirtual 119, 3) := by decide +kernel
theorem dX7_giver_20 : decode cX7_giver 20 = .ok (.ifCond .eq 50, 3) := by decide +kernel
theorem dX7_giver_23 : decode cX7_giver 23 = .ok (.aload_n 0, 1) := by decide +kernel
theorem dX7_giver_24 : decode cX7_giver 24 = .ok (.iload 4, 2) := by decide +kernel
theorem dX7_giver_26 : decode cX7_giver 26 = .ok (.iconst 1, 1) := by decide +kernel
theorem dX7_giver_27 : decode cX7_giver 27 = .ok (.invokevirtual 119, 3) := by decide +kernel
theorem dX7_giver_30 : decode cX7_giver 30 = .ok (.ifCond .eq 34, 3) := by decide +kernel
theorem dX7_giver_33 : decode cX7_giver 33 = .ok (.aload_n 0, 1) := by decide +kernel
theorem dX7_giver_34 : decode cX7_giver 34 = .ok (.iload 4, 2) := by decide +kernel
theorem dX7_giver_36 : decode cX7_giver 36 = .ok (.iload_n 1, 1) := by decide +kernel
theorem dX7_giver_37 : decode cX7_giver 37 = .ok (.iload_n 3, 1) := by decide +kernel
theorem dX7_giver_38 : decode cX7_giver 38 = .ok (.invokevirtual 122, 3) := by decide +kernel
theorem dX7_giver_41 : decode cX7_giver 41 = .ok (.ifCond .eq 23, 3) := by decide +kernel
theorem dX7_giver_44 : decode cX7_giver 44 = .ok (.iload 4, 2) := by decide +kernel
theorem dX7_giver_46 : decode cX7_giver 46 = .ok (.iload_n 2, 1) := by decide +kernel
theorem dX7_giver_47 : decode cX7_giver 47 = .ok (.if_icmp .eq 14, 3) := by decide +kernel
theorem dX7_giver_50 : decode cX7_giver 50 = .ok (.aload_n 0, 1) := by decide +kernel
theorem dX7_giver_51 : decode cX7_giver 51 = .ok (.iload 4, 2) := by decide +kernel
theorem dX7_giver_53 : decode cX7_giver 53 = .ok (.iload_n 2, 1) := by decide +kernel
theorem dX7_giver_54 : decode cX7_giver 54 = .ok (.iload_n 3, 1) := by decide +kernel
theorem dX7_giver_55 : decode cX7_giver 55 = .ok (.invokevirtual 122, 3) := by decide +kernel
theorem dX7_giver_58 : decode cX7_giver 58 = .ok (.ifCond .eq 6, 3) := by decide +kernel
theorem dX7_giver_61 : decode cX7_giver 61 = .ok (.iload 4, 2) := by decide +kernel
theorem dX7_giver_63 : decode cX7_giver 63 = .ok (.ireturn, 1) := by decide +kernel
theorem dX7_giver_64 : decode cX7_giver 64 = .ok (.iinc 4 1, 3) := by decide +kernel
theorem dX7_giver_67 : decode cX7_giver 67 = .ok (.goto (-64), 3) := by decide +kernel
theorem dX7_giver_70 : decode cX7_giver 70 = .ok (.bipush (-9), 2) := by decide +kernel
theorem dX7_giver_72 : decode cX7_giver 72 = .ok (.ireturn, 1) := by decide +kernel
theorem dX7_has_0 : decode cX7_has 0 = .ok (.iload_n 0, 1) := by decide +kernel
theorem dX7_has_1 : decode cX7_has 1 = .ok (.iload_n 1, 1) := by decide +kernel
theorem dX7_has_2 : decode cX7_has 2 = .ok (.ishr, 1) := by decide +kernel
theorem dX7_has_3 : decode cX7_has 3 = .ok (.iconst 1, 1) := by decide +kernel
theorem dX7_has_4 : decode cX7_has 4 = .ok (.iand, 1) := by decide +kernel
theorem dX7_has_5 : decode cX7_has 5 = .ok (.iconst 1, 1) := by decide +kernel
theorem dX7_has_6 : decode cX7_has 6 = .ok (.if_icmp .ne 7, 3) := by decide +kernel
theorem dX7_has_9 : decode cX7_has 9 = .ok (.iconst 1, 1) := by decide +kernel
theorem dX7_has_10 : decode cX7_has 10 = .ok (.goto 4, 3) := by decide +kernel
theorem dX7_has_13 : decode cX7_has 13 = .ok (.iconst 0, 1) := by decide +kernel
theorem dX7_has_14 : decode cX7_has 14 = .ok (.ireturn, 1) := by decide +kernel
theorem dX7_holds_0 : decode cX7_holds 0 = .ok (.aload_n 0, 1) := by decide +kernel
theorem dX7_holds_1 : decode cX7_holds 1 = .ok (.getfield 7, 3) := by decide +kernel
theorem dX7_holds_4 : decode cX7_holds 4 = .ok (.bipush 71, 2) := by decide +kernel
theorem dX7_holds_6 : decode cX7_holds 6 = .ok (.iload_n 1, 1) := by decide +kernel
theorem dX7_holds_7 : decode cX7_holds 7 = .ok (.iadd, 1) := by decide +kernel
theorem dX7_holds_8 : decode cX7_holds 8 = .ok (.iaload, 1) := by decide +kernel
theorem dX7_holds_9 : decode cX7_holds 9 = .ok (.iload_n 2, 1) := by decide +kernel
theorem dX7_holds_10 : decode cX7_holds 10 = .ok (.invokestatic 151, 3) := by decide +kernel
theorem dX7_holds_13 : decode cX7_holds 13 = .ok (.ireturn, 1) := by decide +kernel
theorem dX7_holdsInRun_0 : decode cX7_holdsInRun 0 = .ok (.aload_n 0, 1) := by decide +kernel
theorem dX7_holdsInRun_1 : decode cX7_holdsInRun 1 = .ok (.iconst 0, 1) := by decide +kernel
theorem dX7_holdsInRun_2 : decode cX7_holdsInRun 2 = .ok (.putfield 32, 3) := by decide +kernel
theorem dX7_holdsInRun_5 : decode cX7_holdsInRun 5 = .ok (.aload_n 0, 1) := by decide +kernel
theorem dX7_holdsInRun_6 : decode cX7_holdsInRun 6 = .ok (.iload_n 1, 1) := by decide +kernel
theorem dX7_holdsInRun_7 : decode cX7_holdsInRun 7 = .ok (.iload_n 2, 1) := by decide +kernel
theorem dX7_holdsInRun_8 : decode cX7_holdsInRun 8 = .ok (.invokevirtual 166, 3) := by decide +kernel
theorem dX7_holdsInRun_11 : decode cX7_holdsInRun 11 = .ok (.ifCond .ne 7, 3) := by decide +kernel
theorem dX7_holdsInRun_14 : decode cX7_holdsInRun 14 = .ok (.iconst (-1), 1) := by decide +kernel
theorem dX7_holdsInRun_15 : decode cX7_holdsInRun 15 = .ok (.goto 17, 3) := by decide +kernel
theorem dX7_holdsInRun_18 : decode cX7_holdsInRun 18 = .ok (.aload_n 0, 1) := by decide +kernel
theorem dX7_holdsInRun_19 : decode cX7_holdsInRun 19 = .ok (.iload_n 1, 1) := by decide +kernel
theorem dX7_holdsInRun_20 : decode cX7_holdsInRun 20 = .ok (.iload_n 2, 1) := by decide +kernel
theorem dX7_holdsInRun_21 : decode cX7_holdsInRun 21 = .ok (.invokevirtual 197, 3) := by decide +kernel
theorem dX7_holdsInRun_24 : decode cX7_holdsInRun 24 = .ok (.ifCond .eq 7, 3) := by decide +kernel
theorem dX7_holdsInRun_27 : decode cX7_holdsInRun 27 = .ok (.iconst 1, 1) := by decide +kernel
theorem dX7_holdsInRun_28 : decode cX7_holdsInRun 28 = .ok (.goto 4, 3) := by decide +kernel
theorem dX7_holdsInRun_31 : decode cX7_holdsInRun 31 = .ok (.iconst 0, 1) := by decide +kernel
theorem dX7_holdsInRun_32 : decode cX7_holdsInRun 32 = .ok (.ireturn, 1) := by decide +kernel
theorem dX7_in_0 : decode cX7_in 0 = .ok (.iload_n 0, 1) := by decide +kernel
theorem dX7_in_1 : decode cX7_in 1 = .ok (.iload_n 1, 1) := by decide +kernel
theorem dX7_in_2 : decode cX7_in 2 = .ok (.if_icmp .lt 12, 3) := by decide +kernel
theorem dX7_in_5 : decode cX7_in 5 = .ok (.iload_n 0, 1) := by decide +kernel
theorem dX7_in_6 : decode cX7_in 6 = .ok (.iload_n 2, 1) := by decide +kernel
theorem dX7_in_7 : decode cX7_in 7 = .ok (.if_icmp .gt 7, 3) := by decide +kernel
theorem dX7_in_10 : decode cX7_in 10 = .ok (.iconst 1, 1) := by decide +kernel
theorem dX7_in_11 : decode cX7_in 11 = .ok (.goto 4, 3) := by decide +kernel
theorem dX7_in_14 : decode cX7_in 14 = .ok (.iconst 0, 1) := by decide +kernel
theorem dX7_in_15 : decode cX7_in 15 = .ok (.ireturn, 1) := by decide +kernel
theorem dX7_indexOf_0 : decode cX7_indexOf 0 = .ok (.iconst 0, 1) := by decide +kernel
theorem dX7_indexOf_1 : decode cX7_indexOf 1 = .ok (.istore_n 3, 1) := by decide +kernel
theorem dX7_indexOf_2 : decode cX7_indexOf 2 = .ok (.iload_n 3, 1) := by decide +kernel
theorem dX7_indexOf_3 : decode cX7_indexOf 3 = .ok (.aload_n 0, 1) := by decide +kernel
theorem dX7_indexOf_4 : decode cX7_indexOf 4 = .ok (.bipush 41, 2) := by decide +kernel
theorem dX7_indexOf_6 : decode cX7_indexOf 6 = .ok (.iaload, 1) := by decide +kernel
theorem dX7_indexOf_7 : decode cX7_indexOf 7 = .ok (.if_icmp .ge 37, 3) := by decide +kernel
theorem dX7_indexOf_10 : decode cX7_indexOf 10 = .ok (.aload_n 0, 1) := by decide +kernel
theorem dX7_indexOf_11 : decode cX7_indexOf 11 = .ok (.bipush 42, 2) := by decide +kernel
theorem dX7_indexOf_13 : decode cX7_indexOf 13 = .ok (.iconst 2, 1) := by decide +kernel
theorem dX7_indexOf_14 : decode cX7_indexOf 14 = .ok (.iload_n 3, 1) := by decide +kernel
theorem dX7_indexOf_15 : decode cX7_indexOf 15 = .ok (.imul, 1) := by decide +kernel
theorem dX7_indexOf_16 : decode cX7_indexOf 16 = .ok (.iadd, 1) := by decide +kernel
theorem dX7_indexOf_17 : decode cX7_indexOf 17 = .ok (.iaload, 1) := by decide +kernel
theorem dX7_indexOf_18 : decode cX7_indexOf 18 = .ok (.iload_n 1, 1) := by decide +kernel
theorem dX7_indexOf_19 : decode cX7_indexOf 19 = .ok (.if_icmp .ne 19, 3) := by decide +kernel
theorem dX7_indexOf_22 : decode cX7_indexOf 22 = .ok (.aload_n 0, 1) := by decide +kernel
theorem dX7_indexOf_23 : decode cX7_indexOf 23 = .ok (.bipush 42, 2) := by decide +kernel
theorem dX7_indexOf_25 : decode cX7_indexOf 25 = .ok (.iconst 2, 1) := by decide +kernel
theorem dX7_indexOf_26 : decode cX7_indexOf 26 = .ok (.iload_n 3, 1) := by decide +kernel
theorem dX7_indexOf_27 : decode cX7_indexOf 27 = .ok (.imul, 1) := by decide +kernel
theorem dX7_indexOf_28 : decode cX7_indexOf 28 = .ok (.iadd, 1) := by decide +kernel
theorem dX7_indexOf_29 : decode cX7_indexOf 29 = .ok (.iconst 1, 1) := by decide +kernel
theorem dX7_indexOf_30 : decode cX7_indexOf 30 = .ok (.iadd, 1) := by decide +kernel
theorem dX7_indexOf_31 : decode cX7_indexOf 31 = .ok (.iaload, 1) := by decide +kernel
theorem dX7_indexOf_32 : decode cX7_indexOf 32 = .ok (.iload_n 2, 1) := by decide +kernel
theorem dX7_indexOf_33 : decode cX7_indexOf 33 = .ok (.if_icmp .ne 5, 3) := by decide +kernel
theorem dX7_indexOf_36 : decode cX7_indexOf 36 = .ok (.iload_n 3, 1) := by decide +kernel
theorem dX7_indexOf_37 : decode cX7_indexOf 37 = .ok (.ireturn, 1) := by decide +kernel
theorem dX7_indexOf_38 : decode cX7_indexOf 38 = .ok (.iinc 3 1, 3) := by decide +kernel
theorem dX7_indexOf_41 : decode cX7_indexOf 41 = .ok (.goto (-39), 3) := by decide +kernel
theorem dX7_indexOf_44 : decode cX7_indexOf 44 = .ok (.bipush (-9), 2) := by decide +kernel
theorem dX7_indexOf_46 : decode cX7_indexOf 46 = .ok (.ireturn, 1) := by decide +kernel
theorem dX7_init_0 : decode cX7_init 0 = .ok (.aload_n 0, 1) := by decide +kernel
theorem dX7_init_1 : decode cX7_init 1 = .ok (.invokespecial 1, 3) := by decide +kernel
theorem dX7_init_4 : decode cX7_init 4 = .ok (.aload_n 0, 1) := by decide +kernel
theorem dX7_init_5 : decode cX7_init 5 = .ok (.bipush 81, 2) := by decide +kernel
theorem dX7_init_7 : decode cX7_init 7 = .ok (.newarray .int, 2) := by decide +kernel
theorem dX7_init_9 : decode cX7_init 9 = .ok (.putfield 7, 3) := by decide +kernel
theorem dX7_init_12 : decode cX7_init 12 = .ok (.aload_n 0, 1) := by decide +kernel
theorem dX7_init_13 : decode cX7_init 13 = .ok (.bipush 81, 2) := by decide +kernel
theorem dX7_init_15 : decode cX7_init 15 = .ok (.newarray .int, 2) := by decide +kernel
theorem dX7_init_17 : decode cX7_init 17 = .ok (.putfield 13, 3) := by decide +kernel
theorem dX7_init_20 : decode cX7_init 20 = .ok (.aload_n 0, 1) := by decide +kernel
theorem dX7_init_21 : decode cX7_init 21 = .ok (.sipush 405, 3) := by decide +kernel
theorem dX7_init_24 : decode cX7_init 24 = .ok (.newarray .int, 2) := by decide +kernel
theorem dX7_init_26 : decode cX7_init 26 = .ok (.putfield 16, 3) := by decide +kernel
theorem dX7_init_29 : decode cX7_init 29 = .ok (.aload_n 0, 1) := by decide +kernel
theorem dX7_init_30 : decode cX7_init 30 = .ok (.sipush 160, 3) := by decide +kernel
theorem dX7_init_33 : decode cX7_init 33 = .ok (.newarray .int, 2) := by decide +kernel
theorem dX7_init_35 : decode cX7_init 35 = .ok (.putfield 19, 3) := by decide +kernel
theorem dX7_init_38 : decode cX7_init 38 = .ok (.aload_n 0, 1) := by decide +kernel
theorem dX7_init_39 : decode cX7_init 39 = .ok (.bipush 100, 2) := by decide +kernel
theorem dX7_init_41 : decode cX7_init 41 = .ok (.newarray .int, 2) := by decide +kernel
theorem dX7_init_43 : decode cX7_init 43 = .ok (.putfield 22, 3) := by decide +kernel
theorem dX7_init_46 : decode cX7_init 46 = .ok (.aload_n 0, 1) := by decide +kernel
theorem dX7_init_47 : decode cX7_init 47 = .ok (.bipush 100, 2) := by decide +kernel
theorem dX7_init_49 : decode cX7_init 49 = .ok (.newarray .boolean, 2) := by decide +kernel
theorem dX7_init_51 : decode cX7_init 51 = .ok (.putfield 25, 3) := by decide +kernel
theorem dX7_init_54 : decode cX7_init 54 = .ok (.aload_n 0, 1) := by decide +kernel
theorem dX7_init_55 : decode cX7_init 55 = .ok (.bipush 100, 2) := by decide +kernel
theorem dX7_init_57 : decode cX7_init 57 = .ok (.newarray .int, 2) := by decide +kernel
theorem dX7_init_59 : decode cX7_init 59 = .ok (.putfield 29, 3) := by decide +kernel
theorem dX7_init_62 : decode cX7_init 62 = .ok (.return_, 1) := by decide +kernel
theorem dX7_isFine_0 : decode cX7_isFine 0 = .ok (.aload_n 0, 1) := by decide +kernel
theorem dX7_isFine_1 : decode cX7_isFine 1 = .ok (.getfield 67, 3) := by decide +kernel
theorem dX7_isFine_4 : decode cX7_isFine 4 = .ok (.bipush (-9), 2) := by decide +kernel
theorem dX7_isFine_6 : decode cX7_isFine 6 = .ok (.if_icmp .ne 7, 3) := by decide +kernel
theorem dX7_isFine_9 : decode cX7_isFine 9 = .ok (.iconst 1, 1) := by decide +kernel
theorem dX7_isFine_10 : decode cX7_isFine 10 = .ok (.goto 4, 3) := by decide +kernel
theorem dX7_isFine_13 : decode cX7_isFine 13 = .ok (.iconst 0, 1) := by decide +kernel
theorem dX7_isFine_14 : decode cX7_isFine 14 = .ok (.ireturn, 1) := by decide +kernel
theorem dX7_isFound_0 : decode cX7_isFound 0 = .ok (.aload_n 0, 1) := by decide +kernel
theorem dX7_isFound_1 : decode cX7_isFound 1 = .ok (.getfield 22, 3) := by decide +kernel
theorem dX7_isFound_4 : decode cX7_isFound 4 = .ok (.bipush 10, 2) := by decide +kernel
theorem dX7_isFound_6 : decode cX7_isFound 6 = .ok (.iload_n 1, 1) := by decide +kernel
theorem dX7_isFound_7 : decode cX7_isFound 7 = .ok (.imul, 1) := by decide +kernel
theorem dX7_isFound_8 : decode cX7_isFound 8 = .ok (.iload_n 2, 1) := by decide +kernel
theorem dX7_isFound_9 : decode cX7_isFound 9 = .ok (.iadd, 1) := by decide +kernel
theorem dX7_isFound_10 : decode cX7_isFound 10 = .ok (.iaload, 1) := by decide +kernel
theorem dX7_isFound_11 : decode cX7_isFound 11 = .ok (.istore 4, 2) := by decide +kernel
theorem dX7_isFound_13 : decode cX7_isFound 13 = .ok (.iload 4, 2) := by decide +kernel
theorem dX7_isFound_15 : decode cX7_isFound 15 = .ok (.bipush (-9), 2) := by decide +kernel
theorem dX7_isFound_17 : decode cX7_isFound 17 = .ok (.if_icmp .eq 13, 3) := by decide +kernel
theorem dX7_isFound_20 : decode cX7_isFound 20 = .ok (.iload 4, 2) := by decide +kernel
theorem dX7_isFound_22 : decode cX7_isFound 22 = .ok (.iload_n 3, 1) := by decide +kernel
theorem dX7_isFound_23 : decode cX7_isFound 23 = .ok (.if_icmp .ge 7, 3) := by decide +kernel
theorem dX7_isFound_26 : decode cX7_isFound 26 = .ok (.iconst 1, 1) := by decide +kernel
theorem dX7_isFound_27 : decode cX7_isFound 27 = .ok (.goto 4, 3) := by decide +kernel
theorem dX7_isFound_30 : decode cX7_isFound 30 = .ok (.iconst 0, 1) := by decide +kernel
theorem dX7_isFound_31 : decode cX7_isFound 31 = .ok (.ireturn, 1) := by decide +kernel
theorem dX7_isHolder_0 : decode cX7_isHolder 0 = .ok (.iload_n 1, 1) := by decide +kernel
theorem dX7_isHolder_1 : decode cX7_isHolder 1 = .ok (.iconst 0, 1) := by decide +kernel
theorem dX7_isHolder_2 : decode cX7_isHolder 2 = .ok (.aload_n 0, 1) := by decide +kernel
theorem dX7_isHolder_3 : decode cX7_isHolder 3 = .ok (.iconst 0, 1) := by decide +kernel
theorem dX7_isHolder_4 : decode cX7_isHolder 4 = .ok (.iaload, 1) := by decide +kernel
theorem dX7_isHolder_5 : decode cX7_isHolder 5 = .ok (.iconst 1, 1) := by decide +kernel
theorem dX7_isHolder_6 : decode cX7_isHolder 6 = .ok (.isub, 1) := by decide +kernel
theorem dX7_isHolder_7 : decode cX7_isHolder 7 = .ok (.invokestatic 56, 3) := by decide +kernel
theorem dX7_isHolder_10 : decode cX7_isHolder 10 = .ok (.ifCond .eq 24, 3) := by decide +kernel
theorem dX7_isHolder_13 : decode cX7_isHolder 13 = .ok (.aload_n 0, 1) := by decide +kernel
theorem dX7_isHolder_14 : decode cX7_isHolder 14 = .ok (.iconst 1, 1) := by decide +kernel
theorem dX7_isHolder_15 : decode cX7_isHolder 15 = .ok (.iload_n 1, 1) := by decide +kernel
theorem dX7_isHolder_16 : decode cX7_isHolder 16 = .ok (.iadd, 1) := by decide +kernel
theorem dX7_isHolder_17 : decode cX7_isHolder 17 = .ok (.iaload, 1) := by decide +kernel
theorem dX7_isHolder_18 : decode cX7_isHolder 18 = .ok (.ifCond .eq 12, 3) := by decide +kernel
theorem dX7_isHolder_21 : decode cX7_isHolder 21 = .ok (.aload_n 0, 1) := by decide +kernel
theorem dX7_isHolder_22 : decode cX7_isHolder 22 = .ok (.iconst 1, 1) := by decide +kernel
theorem dX7_isHolder_23 : decode cX7_isHolder 23 = .ok (.iload_n 1, 1) := by decide +kernel
theorem dX7_isHolder_24 : decode cX7_isHolder 24 = .ok (.iadd, 1) := by decide +kernel
theorem dX7_isHolder_25 : decode cX7_isHolder 25 = .ok (.iaload, 1) := by decide +kernel
theorem dX7_isHolder_26 : decode cX7_isHolder 26 = .ok (.iconst 3, 1) := by decide +kernel
theorem dX7_isHolder_27 : decode cX7_isHolder 27 = .ok (.if_icmp .ne 7, 3) := by decide +kernel
theorem dX7_isHolder_30 : decode cX7_isHolder 30 = .ok (.iconst 1, 1) := by decide +kernel
theorem dX7_isHolder_31 : decode cX7_isHolder 31 = .ok (.goto 4, 3) := by decide +kernel
theorem dX7_isHolder_34 : decode cX7_isHolder 34 = .ok (.iconst 0, 1) := by decide +kernel
theorem dX7_isHolder_35 : decode cX7_isHolder 35 = .ok (.ireturn, 1) := by decide +kernel
theorem dX7_isLetter_0 : decode cX7_isLetter 0 = .ok (.aload_n 0, 1) := by decide +kernel
theorem dX7_isLetter_1 : decode cX7_isLetter 1 = .ok (.getfield 39, 3) := by decide +kernel
theorem dX7_isLetter_4 : decode cX7_isLetter 4 = .ok (.iload_n 1, 1) := by decide +kernel
theorem dX7_isLetter_5 : decode cX7_isLetter 5 = .ok (.iadd, 1) := by decide +kernel
theorem dX7_isLetter_6 : decode cX7_isLetter 6 = .ok (.aload_n 0, 1) := by decide +kernel
theorem dX7_isLetter_7 : decode cX7_isLetter 7 = .ok (.getfield 42, 3) := by decide +kernel
theorem dX7_isLetter_10 : decode cX7_isLetter 10 = .ok (.if_icmp .ge 22, 3) := by decide +kernel
theorem dX7_isLetter_13 : decode cX7_isLetter 13 = .ok (.aload_n 0, 1) := by decide +kernel
theorem dX7_isLetter_14 : decode cX7_isLetter 14 = .ok (.getfield 19, 3) := by decide +kernel
theorem dX7_isLetter_17 : decode cX7_isLetter 17 = .ok (.aload_n 0, 1) := by decide +kernel
theorem dX7_isLetter_18 : decode cX7_isLetter 18 = .ok (.getfield 39, 3) := by decide +kernel
theorem dX7_isLetter_21 : decode cX7_isLetter 21 = .ok (.iload_n 1, 1) := by decide +kernel
theorem dX7_isLetter_22 : decode cX7_isLetter 22 = .ok (.iadd, 1) := by decide +kernel
theorem dX7_isLetter_23 : decode cX7_isLetter 23 = .ok (.iaload, 1) := by decide +kernel
theorem dX7_isLetter_24 : decode cX7_isLetter 24 = .ok (.iload_n 2, 1) := by decide +kernel
theorem dX7_isLetter_25 : decode cX7_isLetter 25 = .ok (.if_icmp .ne 7, 3) := by decide +kernel
theorem dX7_isLetter_28 : decode cX7_isLetter 28 = .ok (.iconst 1, 1) := by decide +kernel
theorem dX7_isLetter_29 : decode cX7_isLetter 29 = .ok (.goto 4, 3) := by decide +kernel
theorem dX7_isLetter_32 : decode cX7_isLetter 32 = .ok (.iconst 0, 1) := by decide +kernel
theorem dX7_isLetter_33 : decode cX7_isLetter 33 = .ok (.ireturn, 1) := by decide +kernel
theorem dX7_isObject_0 : decode cX7_isObject 0 = .ok (.iload_n 1, 1) := by decide +kernel
theorem dX7_isObject_1 : decode cX7_isObject 1 = .ok (.iconst 0, 1) := by decide +kernel
theorem dX7_isObject_2 : decode cX7_isObject 2 = .ok (.aload_n 0, 1) := by decide +kernel
theorem dX7_isObject_3 : decode cX7_isObject 3 = .ok (.getfield 7, 3) := by decide +kernel
theorem dX7_isObject_6 : decode cX7_isObject 6 = .ok (.iconst 0, 1) := by decide +kernel
theorem dX7_isObject_7 : decode cX7_isObject 7 = .ok (.iaload, 1) := by decide +kernel
theorem dX7_isObject_8 : decode cX7_isObject 8 = .ok (.iconst 1, 1) := by decide +kernel
theorem dX7_isObject_9 : decode cX7_isObject 9 = .ok (.isub, 1) := by decide +kernel
theorem dX7_isObject_10 : decode cX7_isObject 10 = .ok (.invokestatic 56, 3) := by decide +kernel
theorem dX7_isObject_13 : decode cX7_isObject 13 = .ok (.ireturn, 1) := by decide +kernel
theorem dX7_isOf_0 : decode cX7_isOf 0 = .ok (.aload_n 0, 1) := by decide +kernel
theorem dX7_isOf_1 : decode cX7_isOf 1 = .ok (.iload_n 1, 1) := by decide +kernel
theorem dX7_isOf_2 : decode cX7_isOf 2 = .ok (.invokevirtual 108, 3) := by decide +kernel
theorem dX7_isOf_5 : decode cX7_isOf 5 = .ok (.ifCond .eq 19, 3) := by decide +kernel
theorem dX7_isOf_8 : decode cX7_isOf 8 = .ok (.aload_n 0, 1) := by decide +kernel
theorem dX7_isOf_9 : decode cX7_isOf 9 = .ok (.getfield 7, 3) := by decide +kernel
theorem dX7_isOf_12 : decode cX7_isOf 12 = .ok (.iconst 1, 1) := by decide +kernel
theorem dX7_isOf_13 : decode cX7_isOf 13 = .ok (.iload_n 1, 1) := by decide +kernel
theorem dX7_isOf_14 : decode cX7_isOf 14 = .ok (.iadd, 1) := by decide +kernel
theorem dX7_isOf_15 : decode cX7_isOf 15 = .ok (.iaload, 1) := by decide +kernel
theorem dX7_isOf_16 : decode cX7_isOf 16 = .ok (.iload_n 2, 1) := by decide +kernel
theorem dX7_isOf_17 : decode cX7_isOf 17 = .ok (.if_icmp .ne 7, 3) := by decide +kernel
theorem dX7_isOf_20 : decode cX7_isOf 20 = .ok (.iconst 1, 1) := by decide +kernel
theorem dX7_isOf_21 : decode cX7_isOf 21 = .ok (.goto 4, 3) := by decide +kernel
theorem dX7_isOf_24 : decode cX7_isOf 24 = .ok (.iconst 0, 1) := by decide +kernel
theorem dX7_isOf_25 : decode cX7_isOf 25 = .ok (.ireturn, 1) := by decide +kernel
theorem dX7_keyOf_0 : decode cX7_keyOf 0 = .ok (.iconst 0, 1) := by decide +kernel
theorem dX7_keyOf_1 : decode cX7_keyOf 1 = .ok (.istore 4, 2) := by decide +kernel
theorem dX7_keyOf_3 : decode cX7_keyOf 3 = .ok (.iload 4, 2) := by decide +kernel
theorem dX7_keyOf_5 : decode cX7_keyOf 5 = .ok (.aload_n 0, 1) := by decide +kernel
theorem dX7_keyOf_6 : decode cX7_keyOf 6 = .ok (.getfield 7, 3) := by decide +kernel
theorem dX7_keyOf_9 : decode cX7_keyOf 9 = .ok (.iconst 0, 1) := by decide +kernel
theorem dX7_keyOf_10 : decode cX7_keyOf 10 = .ok (.iaload, 1) := by decide +kernel
theorem dX7_keyOf_11 : decode cX7_keyOf 11 = .ok (.if_icmp .ge 47, 3) := by decide +kernel
theorem dX7_keyOf_14 : decode cX7_keyOf 14 = .ok (.aload_n 0, 1) := by decide +kernel
theorem dX7_keyOf_15 : decode cX7_keyOf 15 = .ok (.iload 4, 2) := by decide +kernel
theorem dX7_keyOf_17 : decode cX7_keyOf 17 = .ok (.iconst 2, 1) := by decide +kernel
theorem dX7_keyOf_18 : decode cX7_keyOf 18 = .ok (.invokevirtual 112, 3) := by decide +kernel
theorem dX7_keyOf_21 : decode cX7_keyOf 21 = .ok (.ifCond .eq 31, 3) := by decide +kernel
theorem dX7_keyOf_24 : decode cX7_keyOf 24 = .ok (.aload_n 0, 1) := by decide +kernel
theorem dX7_keyOf_25 : decode cX7_keyOf 25 = .ok (.getfield 7, 3) := by decide +kernel
theorem dX7_keyOf_28 : decode cX7_keyOf 28 = .ok (.bipush 11, 2) := by decide +kernel
theorem dX7_keyOf_30 : decode cX7_keyOf 30 = .ok (.iload 4, 2) := by decide +kernel
theorem dX7_keyOf_32 : decode cX7_keyOf 32 = .ok (.iadd, 1) := by decide +kernel
theorem dX7_keyOf_33 : decode cX7_keyOf 33 = .ok (.iaload, 1) := by decide +kernel
theorem dX7_keyOf_34 : decode cX7_keyOf 34 = .ok (.iload_n 2, 1) := by decide +kernel
theorem dX7_keyOf_35 : decode cX7_keyOf 35 = .ok (.if_icmp .ne 17, 3) := by decide +kernel
theorem dX7_keyOf_38 : decode cX7_keyOf 38 = .ok (.aload_n 0, 1) := by decide +kernel
theorem dX7_keyOf_39 : decode cX7_keyOf 39 = .ok (.iload_n 1, 1) := by decide +kernel
theorem dX7_keyOf_40 : decode cX7_keyOf 40 = .ok (.iload 4, 2) := by decide +kernel
theorem dX7_keyOf_42 : decode cX7_keyOf 42 = .ok (.iload_n 3, 1) := by decide +kernel
theorem dX7_keyOf_43 : decode cX7_keyOf 43 = .ok (.invokevirtual 122, 3) := by decide +kernel
theorem dX7_keyOf_46 : decode cX7_keyOf 46 = .ok (.ifCond .eq 6, 3) := by decide +kernel
theorem dX7_keyOf_49 : decode cX7_keyOf 49 = .ok (.iload 4, 2) := by decide +kernel
theorem dX7_keyOf_51 : decode cX7_keyOf 51 = .ok (.ireturn, 1) := by decide +kernel
theorem dX7_keyOf_52 : decode cX7_keyOf 52 = .ok (.iinc 4 1, 3) := by decide +kernel
theorem dX7_keyOf_55 : decode cX7_keyOf 55 = .ok (.goto (-52), 3) := by decide +kernel
theorem dX7_keyOf_58 : decode cX7_keyOf 58 = .ok (.bipush (-9), 2) := by decide +kernel
theorem dX7_keyOf_60 : decode cX7_keyOf 60 = .ok (.ireturn, 1) := by decide +kernel
theorem dX7_keyword_0 : decode cX7_keyword 0 = .ok (.aload_n 0, 1) := by decide +kernel
theorem dX7_keyword_1 : decode cX7_keyword 1 = .ok (.getfield 42, 3) := by decide +kernel
theorem dX7_keyword_4 : decode cX7_keyword 4 = .ok (.aload_n 0, 1) := by decide +kernel
theorem dX7_keyword_5 : decode cX7_keyword 5 = .ok (.getfield 39, 3) := by decide +kernel
theorem dX7_keyword_8 : decode cX7_keyword 8 = .ok (.isub, 1) := by decide +kernel
theorem dX7_keyword_9 : decode cX7_keyword 9 = .ok (.istore_n 1, 1) := by decide +kernel
theorem dX7_keyword_10 : decode cX7_keyword 10 = .ok (.iload_n 1, 1) := by decide +kernel
theorem dX7_keyword_11 : decode cX7_keyword 11 = .ok (.iconst 5, 1) := by decide +kernel
theorem dX7_keyword_12 : decode cX7_keyword 12 = .ok (.if_icmp .ne 55, 3) := by decide +kernel
theorem dX7_keyword_15 : decode cX7_keyword 15 = .ok (.aload_n 0, 1) := by decide +kernel
theorem dX7_keyword_16 : decode cX7_keyword 16 = .ok (.iconst 0, 1) := by decide +kernel
theorem dX7_keyword_17 : decode cX7_keyword 17 = .ok (.bipush 97, 2) := by decide +kernel
theorem dX7_keyword_19 : decode cX7_keyword 19 = .ok (.invokevirtual 45, 3) := by decide +kernel
theorem dX7_keyword_22 : decode cX7_keyword 22 = .ok (.ifCond .eq 45, 3) := by decide +kernel
theorem dX7_keyword_25 : decode cX7_keyword 25 = .ok (.aload_n 0, 1) := by decide +kernel
theorem dX7_keyword_26 : decode cX7_keyword 26 = .ok (.iconst 1, 1) := by decide +kernel
theorem dX7_keyword_27 : decode cX7_keyword 27 = .ok (.bipush 103, 2) := by decide +kernel
theorem dX7_keyword_29 : decode cX7_keyword 29 = .ok (.invokevirtual 45, 3) := by decide +kernel
theorem dX7_keyword_32 : decode cX7_keyword 32 = .ok (.ifCond .eq 35, 3) := by decide +kernel
theorem dX7_keyword_35 : decode cX7_keyword 35 = .ok (.aload_n 0, 1) := by decide +kernel
theorem dX7_keyword_36 : decode cX7_keyword 36 = .ok (.iconst 2, 1) := by decide +kernel
theorem dX7_keyword_37 : decode cX7_keyword 37 = .ok (.bipush 101, 2) := by decide +kernel
theorem dX7_keyword_39 : decode cX7_keyword 39 = .ok (.invokevirtual 45, 3) := by decide +kernel
theorem dX7_keyword_42 : decode cX7_keyword 42 = .ok (.ifCond .eq 25, 3) := by decide +kernel
theorem dX7_keyword_45 : decode cX7_keyword 45 = .ok (.aload_n 0, 1) := by decide +kernel
theorem dX7_keyword_46 : decode cX7_keyword 46 = .ok (.iconst 3, 1) := by decide +kernel
theorem dX7_keyword_47 : decode cX7_keyword 47 = .ok (.bipush 110, 2) := by decide +kernel
theorem dX7_keyword_49 : decode cX7_keyword 49 = .ok (.invokevirtual 45, 3) := by decide +kernel
theorem dX7_keyword_52 : decode cX7_keyword 52 = .ok (.ifCond .eq 15, 3) := by decide +kernel
theorem dX7_keyword_55 : decode cX7_keyword 55 = .ok (.aload_n 0, 1) := by decide +kernel
theorem dX7_keyword_56 : decode cX7_keyword 56 = .ok (.iconst 4, 1) := by decide +kernel
theorem dX7_keyword_57 : decode cX7_keyword 57 = .ok (.bipush 116, 2) := by decide +kernel
theorem dX7_keyword_59 : decode cX7_keyword 59 = .ok (.invokevirtual 45, 3) := by decide +kernel
theorem dX7_keyword_62 : decode cX7_keyword 62 = .ok (.ifCond .eq 5, 3) := by decide +kernel
theorem dX7_keyword_65 : decode cX7_keyword 65 = .ok (.iconst 0, 1) := by decide +kernel
theorem dX7_keyword_66 : decode cX7_keyword 66 = .ok (.ireturn, 1) := by decide +kernel
theorem dX7_keyword_67 : decode cX7_keyword 67 = .ok (.iload_n 1, 1) := by decide +kernel
theorem dX7_keyword_68 : decode cX7_keyword 68 = .ok (.iconst 3, 1) := by decide +kernel
theorem dX7_keyword_69 : decode cX7_keyword 69 = .ok (.if_icmp .ne 35, 3) := by decide +kernel
theorem dX7_keyword_72 : decode cX7_keyword 72 = .ok (.aload_n 0, 1) := by decide +kernel
theorem dX7_keyword_73 : decode cX7_keyword 73 = .ok (.iconst 0, 1) := by decide +kernel
theorem dX7_keyword_74 : decode cX7_keyword 74 = .ok (.bipush 98, 2) := by decide +kernel
theorem dX7_keyword_76 : decode cX7_keyword 76 = .ok (.invokevirtual 45, 3) := by decide +kernel
theorem dX7_keyword_79 : decode cX7_keyword 79 = .ok (.ifCond .eq 25, 3) := by decide +kernel
theorem dX7_keyword_82 : decode cX7_keyword 82 = .ok (.aload_n 0, 1) := by decide +kernel
theorem dX7_keyword_83 : decode cX7_keyword 83 = .ok (.iconst 1, 1) := by decide +kernel
theorem dX7_keyword_84 : decode cX7_keyword 84 = .ok (.bipush 111, 2) := by decide +kernel
theorem dX7_keyword_86 : decode cX7_keyword 86 = .ok (.invokevirtual 45, 3) := by decide +kernel
theorem dX7_keyword_89 : decode cX7_keyword 89 = .ok (.ifCond .eq 15, 3) := by decide +kernel
theorem dX7_keyword_92 : decode cX7_keyword 92 = .ok (.aload_n 0, 1) := by decide +kernel
theorem dX7_keyword_93 : decode cX7_keyword 93 = .ok (.iconst 2, 1) := by decide +kernel
theorem dX7_keyword_94 : decode cX7_keyword 94 = .ok (.bipush 120, 2) := by decide +kernel
theorem dX7_keyword_96 : decode cX7_keyword 96 = .ok (.invokevirtual 45, 3) := by decide +kernel
theorem dX7_keyword_99 : decode cX7_keyword 99 = .ok (.ifCond .eq 5, 3) := by decide +kernel
theorem dX7_keyword_102 : decode cX7_keyword 102 = .ok (.iconst 1, 1) := by decide +kernel
theorem dX7_keyword_103 : decode cX7_keyword 103 = .ok (.ireturn, 1) := by decide +kernel
theorem dX7_keyword_104 : decode cX7_keyword 104 = .ok (.iload_n 1, 1) := by decide +kernel
theorem dX7_keyword_105 : decode cX7_keyword 105 = .ok (.iconst 3, 1) := by decide +kernel
theorem dX7_keyword_106 : decode cX7_keyword 106 = .ok (.if_icmp .ne 35, 3) := by decide +kernel
theorem dX7_keyword_109 : decode cX7_keyword 109 = .ok (.aload_n 0, 1) := by decide +kernel
theorem dX7_keyword_110 : decode cX7_keyword 110 = .ok (.iconst 0, 1) := by decide +kernel
theorem dX7_keyword_111 : decode cX7_keyword 111 = .ok (.bipush 107, 2) := by decide +kernel
theorem dX7_keyword_113 : decode cX7_keyword 113 = .ok (.invokevirtual 45, 3) := by decide +kernel
theorem dX7_keyword_116 : decode cX7_keyword 116 = .ok (.ifCond .eq 25, 3) := by decide +kernel
theorem dX7_keyword_119 : decode cX7_keyword 119 = .ok (.aload_n 0, 1) := by decide +kernel
theorem dX7_keyword_120 : decode cX7_keyword 120 = .ok (.iconst 1, 1) := by decide +kernel
theorem dX7_keyword_121 : decode cX7_keyword 121 = .ok (.bipush 101, 2) := by decide +kernel
theorem dX7_keyword_123 : decode cX7_keyword 123 = .ok (.invokevirtual 45, 3) := by decide +kernel
theorem dX7_keyword_126 : decode cX7_keyword 126 = .ok (.ifCond .eq 15, 3) := by decide +kernel
theorem dX7_keyword_129 : decode cX7_keyword 129 = .ok (.aload_n 0, 1) := by decide +kernel
theorem dX7_keyword_130 : decode cX7_keyword 130 = .ok (.iconst 2, 1) := by decide +kernel
theorem dX7_keyword_131 : decode cX7_keyword 131 = .ok (.bipush 121, 2) := by decide +kernel
theorem dX7_keyword_133 : decode cX7_keyword 133 = .ok (.invokevirtual 45, 3) := by decide +kernel
theorem dX7_keyword_136 : decode cX7_keyword 136 = .ok (.ifCond .eq 5, 3) := by decide +kernel
theorem dX7_keyword_139 : decode cX7_keyword 139 = .ok (.iconst 2, 1) := by decide +kernel
theorem dX7_keyword_140 : decode cX7_keyword 140 = .ok (.ireturn, 1) := by decide +kernel
theorem dX7_keyword_141 : decode cX7_keyword 141 = .ok (.iload_n 1, 1) := by decide +kernel
theorem dX7_keyword_142 : decode cX7_keyword 142 = .ok (.iconst 4, 1) := by decide +kernel
theorem dX7_keyword_143 : decode cX7_keyword 143 = .ok (.if_icmp .ne 45, 3) := by decide +kernel
theorem dX7_keyword_146 : decode cX7_keyword 146 = .ok (.aload_n 0, 1) := by decide +kernel
theorem dX7_keyword_147 : decode cX7_keyword 147 = .ok (.iconst 0, 1) := by decide +kernel
theorem dX7_keyword_148 : decode cX7_keyword 148 = .ok (.bipush 104, 2) := by decide +kernel
theorem dX7_keyword_150 : decode cX7_keyword 150 = .ok (.invokevirtual 45, 3) := by decide +kernel
theorem dX7_keyword_153 : decode cX7_keyword 153 = .ok (.ifCond .eq 35, 3) := by decide +kernel
theorem dX7_keyword_156 : decode cX7_keyword 156 = .ok (.aload_n 0, 1) := by decide +kernel
theorem dX7_keyword_157 : decode cX7_keyword 157 = .ok (.iconst 1, 1) := by decide +kernel
theorem dX7_keyword_158 : decode cX7_keyword 158 = .ok (.bipush 111, 2) := by decide +kernel
theorem dX7_keyword_160 : decode cX7_keyword 160 = .ok (.invokevirtual 45, 3) := by decide +kernel
theorem dX7_keyword_163 : decode cX7_keyword 163 = .ok (.ifCond .eq 25, 3) := by decide +kernel
theorem dX7_keyword_166 : decode cX7_keyword 166 = .ok (.aload_n 0, 1) := by decide +kernel
theorem dX7_keyword_167 : decode cX7_keyword 167 = .ok (.iconst 2, 1) := by decide +kernel
theorem dX7_keyword_168 : decode cX7_keyword 168 = .ok (.bipush 108, 2) := by decide +kernel
theorem dX7_keyword_170 : decode cX7_keyword 170 = .ok (.invokevirtual 45, 3) := by decide +kernel
theorem dX7_keyword_173 : decode cX7_keyword 173 = .ok (.ifCond .eq 15, 3) := by decide +kernel
theorem dX7_keyword_176 : decode cX7_keyword 176 = .ok (.aload_n 0, 1) := by decide +kernel
theorem dX7_keyword_177 : decode cX7_keyword 177 = .ok (.iconst 3, 1) := by decide +kernel
theorem dX7_keyword_178 : decode cX7_keyword 178 = .ok (.bipush 100, 2) := by decide +kernel
theorem dX7_keyword_180 : decode cX7_keyword 180 = .ok (.invokevirtual 45, 3) := by decide +kernel
theorem dX7_keyword_183 : decode cX7_keyword 183 = .ok (.ifCond .eq 5, 3) := by decide +kernel
theorem dX7_keyword_186 : decode cX7_keyword 186 = .ok (.iconst 4, 1) := by decide +kernel
theorem dX7_keyword_187 : decode cX7_keyword 187 = .ok (.ireturn, 1) := by decide +kernel
theorem dX7_keyword_188 : decode cX7_keyword 188 = .ok (.iload_n 1, 1) := by decide +kernel
theorem dX7_keyword_189 : decode cX7_keyword 189 = .ok (.bipush 7, 2) := by decide +kernel
theorem dX7_keyword_191 : decode cX7_keyword 191 = .ok (.if_icmp .ne 78, 3) := by decide +kernel
theorem dX7_keyword_194 : decode cX7_keyword 194 = .ok (.aload_n 0, 1) := by decide +kernel
theorem dX7_keyword_195 : decode cX7_keyword 195 = .ok (.iconst 0, 1) := by decide +kernel
theorem dX7_keyword_196 : decode cX7_keyword 196 = .ok (.bipush 102, 2) := by decide +kernel
theorem dX7_keyword_198 : decode cX7_keyword 198 = .ok (.invokevirtual 45, 3) := by decide +kernel
theorem dX7_keyword_201 : decode cX7_keyword 201 = .ok (.ifCond .eq 68, 3) := by decide +kernel
theorem dX7_keyword_204 : decode cX7_keyword 204 = .ok (.aload_n 0, 1) := by decide +kernel
theorem dX7_keyword_205 : decode cX7_keyword 205 = .ok (.iconst 1, 1) := by decide +kernel
theorem dX7_keyword_206 : decode cX7_keyword 206 = .ok (.bipush 97, 2) := by decide +kernel
theorem dX7_keyword_208 : decode cX7_keyword 208 = .ok (.invokevirtual 45, 3) := by decide +kernel
theorem dX7_keyword_211 : decode cX7_keyword 211 = .ok (.ifCond .eq 58, 3) := by decide +kernel
theorem dX7_keyword_214 : decode cX7_keyword 214 = .ok (.aload_n 0, 1) := by decide +kernel
theorem dX7_keyword_215 : decode cX7_keyword 215 = .ok (.iconst 2, 1) := by decide +kernel
theorem dX7_keyword_216 : decode cX7_keyword 216 = .ok (.bipush 99, 2) := by decide +kernel
theorem dX7_keyword_218 : decode cX7_keyword 218 = .ok (.invokevirtual 45, 3) := by decide +kernel
theorem dX7_keyword_221 : decode cX7_keyword 221 = .ok (.ifCond .eq 48, 3) := by decide +kernel
theorem dX7_keyword_224 : decode cX7_keyword 224 = .ok (.aload_n 0, 1) := by decide +kernel
theorem dX7_keyword_225 : decode cX7_keyword 225 = .ok (.iconst 3, 1) := by decide +kernel
theorem dX7_keyword_226 : decode cX7_keyword 226 = .ok (.bipush 116, 2) := by decide +kernel
theorem dX7_keyword_228 : decode cX7_keyword 228 = .ok (.invokevirtual 45, 3) := by decide +kernel
theorem dX7_keyword_231 : decode cX7_keyword 231 = .ok (.ifCond .eq 38, 3) := by decide +kernel
theorem dX7_keyword_234 : decode cX7_keyword 234 = .ok (.aload_n 0, 1) := by decide +kernel
theorem dX7_keyword_235 : decode cX7_keyword 235 = .ok (.iconst 4, 1) := by decide +kernel
theorem dX7_keyword_236 : decode cX7_keyword 236 = .ok (.bipush 111, 2) := by decide +kernel
theorem dX7_keyword_238 : decode cX7_keyword 238 = .ok (.invokevirtual 45, 3) := by decide +kernel
theorem dX7_keyword_241 : decode cX7_keyword 241 = .ok (.ifCond .eq 28, 3) := by decide +kernel
theorem dX7_keyword_244 : decode cX7_keyword 244 = .ok (.aload_n 0, 1) := by decide +kernel
theorem dX7_keyword_245 : decode cX7_keyword 245 = .ok (.iconst 5, 1) := by decide +kernel
theorem dX7_keyword_246 : decode cX7_keyword 246 = .ok (.bipush 114, 2) := by decide +kernel
theorem dX7_keyword_248 : decode cX7_keyword 248 = .ok (.invokevirtual 45, 3) := by decide +kernel
theorem dX7_keyword_251 : decode cX7_keyword 251 = .ok (.ifCond .eq 18, 3) := by decide +kernel
theorem dX7_keyword_254 : decode cX7_keyword 254 = .ok (.aload_n 0, 1) := by decide +kernel
theorem dX7_keyword_255 : decode cX7_keyword 255 = .ok (.bipush 6, 2) := by decide +kernel
theorem dX7_keyword_257 : decode cX7_keyword 257 = .ok (.bipush 121, 2) := by decide +kernel
theorem dX7_keyword_259 : decode cX7_keyword 259 = .ok (.invokevirtual 45, 3) := by decide +kernel
theorem dX7_keyword_262 : decode cX7_keyword 262 = .ok (.ifCond .eq 7, 3) := by decide +kernel
theorem dX7_keyword_265 : decode cX7_keyword 265 = .ok (.iconst 1, 1) := by decide +kernel
theorem dX7_keyword_266 : decode cX7_keyword 266 = .ok (.goto 4, 3) := by decide +kernel
theorem dX7_keyword_269 : decode cX7_keyword 269 = .ok (.iconst 0, 1) := by decide +kernel
theorem dX7_keyword_270 : decode cX7_keyword 270 = .ok (.istore_n 2, 1) := by decide +kernel
theorem dX7_keyword_271 : decode cX7_keyword 271 = .ok (.iload_n 2, 1) := by decide +kernel
theorem dX7_keyword_272 : decode cX7_keyword 272 = .ok (.ifCond .eq 7, 3) := by decide +kernel
theorem dX7_keyword_275 : decode cX7_keyword 275 = .ok (.iconst 3, 1) := by decide +kernel
theorem dX7_keyword_276 : decode cX7_keyword 276 = .ok (.goto 5, 3) := by decide +kernel
theorem dX7_keyword_279 : decode cX7_keyword 279 = .ok (.bipush (-9), 2) := by decide +kernel
theorem dX7_keyword_281 : decode cX7_keyword 281 = .ok (.ireturn, 1) := by decide +kernel
theorem dX7_kind_0 : decode cX7_kind 0 = .ok (.aload_n 0, 1) := by decide +kernel
theorem dX7_kind_1 : decode cX7_kind 1 = .ok (.iconst 0, 1) := by decide +kernel
theorem dX7_kind_2 : decode cX7_kind 2 = .ok (.putfield 32, 3) := by decide +kernel
theorem dX7_kind_5 : decode cX7_kind 5 = .ok (.aload_n 0, 1) := by decide +kernel
theorem dX7_kind_6 : decode cX7_kind 6 = .ok (.iload_n 1, 1) := by decide +kernel
theorem dX7_kind_7 : decode cX7_kind 7 = .ok (.invokevirtual 108, 3) := by decide +kernel
theorem dX7_kind_10 : decode cX7_kind 10 = .ok (.ifCond .eq 14, 3) := by decide +kernel
theorem dX7_kind_13 : decode cX7_kind 13 = .ok (.aload_n 0, 1) := by decide +kernel
theorem dX7_kind_14 : decode cX7_kind 14 = .ok (.getfield 7, 3) := by decide +kernel
theorem dX7_kind_17 : decode cX7_kind 17 = .ok (.iconst 1, 1) := by decide +kernel
theorem dX7_kind_18 : decode cX7_kind 18 = .ok (.iload_n 1, 1) := by decide +kernel
theorem dX7_kind_19 : decode cX7_kind 19 = .ok (.iadd, 1) := by decide +kernel
theorem dX7_kind_20 : decode cX7_kind 20 = .ok (.iaload, 1) := by decide +kernel
theorem dX7_kind_21 : decode cX7_kind 21 = .ok (.goto 4, 3) := by decide +kernel
theorem dX7_kind_24 : decode cX7_kind 24 = .ok (.iconst (-1), 1) := by decide +kernel
theorem dX7_kind_25 : decode cX7_kind 25 = .ok (.ireturn, 1) := by decide +kernel
theorem dX7_lastRound_0 : decode cX7_lastRound 0 = .ok (.aload_n 0, 1) := by decide +kernel
theorem dX7_lastRound_1 : decode cX7_lastRound 1 = .ok (.iconst 0, 1) := by decide +kernel
theorem dX7_lastRound_2 : decode cX7_lastRound 2 = .ok (.putfield 32, 3) := by decide +kernel
theorem dX7_lastRound_5 : decode cX7_lastRound 5 = .ok (.aload_n 0, 1) := by decide +kernel
theorem dX7_lastRound_6 : decode cX7_lastRound 6 = .ok (.iconst 0, 1) := by decide +kernel
theorem dX7_lastRound_7 : decode cX7_lastRound 7 = .ok (.invokevirtual 163, 3) := by decide +kernel
theorem dX7_lastRound_10 : decode cX7_lastRound 10 = .ok (.aload_n 0, 1) := by decide +kernel
theorem dX7_lastRound_11 : decode cX7_lastRound 11 = .ok (.getfield 154, 3) := by decide +kernel
theorem dX7_lastRound_14 : decode cX7_lastRound 14 = .ok (.ireturn, 1) := by decide +kernel
theorem dX7_load_0 : decode cX7_load 0 = .ok (.aload_n 0, 1) := by decide +kernel
theorem dX7_load_1 : decode cX7_load 1 = .ok (.iconst 0, 1) := by decide +kernel
theorem dX7_load_2 : decode cX7_load 2 = .ok (.putfield 32, 3) := by decide +kernel
theorem dX7_load_5 : decode cX7_load 5 = .ok (.iconst 0, 1) := by decide +kernel
theorem dX7_load_6 : decode cX7_load 6 = .ok (.istore_n 1, 1) := by decide +kernel
theorem dX7_load_7 : decode cX7_load 7 = .ok (.iload_n 1, 1) := by decide +kernel
theorem dX7_load_8 : decode cX7_load 8 = .ok (.bipush 81, 2) := by decide +kernel
theorem dX7_load_10 : decode cX7_load 10 = .ok (.if_icmp .ge 16, 3) := by decide +kernel
theorem dX7_load_13 : decode cX7_load 13 = .ok (.aload_n 0, 1) := by decide +kernel
theorem dX7_load_14 : decode cX7_load 14 = .ok (.getfield 13, 3) := by decide +kernel
theorem dX7_load_17 : decode cX7_load 17 = .ok (.iload_n 1, 1) := by decide +kernel
theorem dX7_load_18 : decode cX7_load 18 = .ok (.iconst 0, 1) := by decide +kernel
theorem dX7_load_19 : decode cX7_load 19 = .ok (.iastore, 1) := by decide +kernel
theorem dX7_load_20 : decode cX7_load 20 = .ok (.iinc 1 1, 3) := by decide +kernel
theorem dX7_load_23 : decode cX7_load 23 = .ok (.goto (-16), 3) := by decide +kernel
theorem dX7_load_26 : decode cX7_load 26 = .ok (.aload_n 0, 1) := by decide +kernel
theorem dX7_load_27 : decode cX7_load 27 = .ok (.bipush (-9), 2) := by decide +kernel
theorem dX7_load_29 : decode cX7_load 29 = .ok (.putfield 67, 3) := by decide +kernel
theorem dX7_load_32 : decode cX7_load 32 = .ok (.aload_n 0, 1) := by decide +kernel
theorem dX7_load_33 : decode cX7_load 33 = .ok (.iconst 0, 1) := by decide +kernel
theorem dX7_load_34 : decode cX7_load 34 = .ok (.putfield 42, 3) := by decide +kernel
theorem dX7_load_37 : decode cX7_load 37 = .ok (.aload_n 0, 1) := by decide +kernel
theorem dX7_load_38 : decode cX7_load 38 = .ok (.invokevirtual 74, 3) := by decide +kernel
theorem dX7_load_41 : decode cX7_load 41 = .ok (.aload_n 0, 1) := by decide +kernel
theorem dX7_load_42 : decode cX7_load 42 = .ok (.invokevirtual 70, 3) := by decide +kernel
theorem dX7_load_45 : decode cX7_load 45 = .ok (.ifCond .eq 136, 3) := by decide +kernel
theorem dX7_load_48 : decode cX7_load 48 = .ok (.aload_n 0, 1) := by decide +kernel
theorem dX7_load_49 : decode cX7_load 49 = .ok (.getfield 53, 3) := by decide +kernel
theorem dX7_load_52 : decode cX7_load 52 = .ok (.ifCond .eq 129, 3) := by decide +kernel
theorem dX7_load_55 : decode cX7_load 55 = .ok (.aload_n 0, 1) := by decide +kernel
theorem dX7_load_56 : decode cX7_load 56 = .ok (.getfield 64, 3) := by decide +kernel
theorem dX7_load_59 : decode cX7_load 59 = .ok (.iconst 4, 1) := by decide +kernel
theorem dX7_load_60 : decode cX7_load 60 = .ok (.if_icmp .ne 23, 3) := by decide +kernel
theorem dX7_load_63 : decode cX7_load 63 = .ok (.aload_n 0, 1) := by decide +kernel
theorem dX7_load_64 : decode cX7_load 64 = .ok (.getfield 13, 3) := by decide +kernel
theorem dX7_load_67 : decode cX7_load 67 = .ok (.bipush 41, 2) := by decide +kernel
theorem dX7_load_69 : decode cX7_load 69 = .ok (.iaload, 1) := by decide +kernel
theorem dX7_load_70 : decode cX7_load 70 = .ok (.bipush 10, 2) := by decide +kernel
theorem dX7_load_72 : decode cX7_load 72 = .ok (.if_icmp .ge 7, 3) := by decide +kernel
theorem dX7_load_75 : decode cX7_load 75 = .ok (.iconst 1, 1) := by decide +kernel
theorem dX7_load_76 : decode cX7_load 76 = .ok (.goto 23, 3) := by decide +kernel
theorem dX7_load_79 : decode cX7_load 79 = .ok (.iconst 0, 1) := by decide +kernel
theorem dX7_load_80 : decode cX7_load 80 = .ok (.goto 19, 3) := by decide +kernel
theorem dX7_load_83 : decode cX7_load 83 = .ok (.aload_n 0, 1) := by decide +kernel
theorem dX7_load_84 : decode cX7_load 84 = .ok (.getfield 13, 3) := by decide +kernel
theorem dX7_load_87 : decode cX7_load 87 = .ok (.iconst 0, 1) := by decide +kernel
theorem dX7_load_88 : decode cX7_load 88 = .ok (.iaload, 1) := by decide +kernel
theorem dX7_load_89 : decode cX7_load 89 = .ok (.bipush 10, 2) := by decide +kernel
theorem dX7_load_91 : decode cX7_load 91 = .ok (.if_icmp .ge 7, 3) := by decide +kernel
theorem dX7_load_94 : decode cX7_load 94 = .ok (.iconst 1, 1) := by decide +kernel
theorem dX7_load_95 : decode cX7_load 95 = .ok (.goto 4, 3) := by decide +kernel
theorem dX7_load_98 : decode cX7_load 98 = .ok (.iconst 0, 1) := by decide +kernel
theorem dX7_load_99 : decode cX7_load 99 = .ok (.istore_n 1, 1) := by decide +kernel
theorem dX7_load_100 : decode cX7_load 100 = .ok (.aload_n 0, 1) := by decide +kernel
theorem dX7_load_101 : decode cX7_load 101 = .ok (.aload_n 0, 1) := by decide +kernel
theorem dX7_load_102 : decode cX7_load 102 = .ok (.getfield 53, 3) := by decide +kernel
theorem dX7_load_105 : decode cX7_load 105 = .ok (.iconst 1, 1) := by decide +kernel
theorem dX7_load_106 : decode cX7_load 106 = .ok (.if_icmp .ne 18, 3) := by decide +kernel
theorem dX7_load_109 : decode cX7_load 109 = .ok (.aload_n 0, 1) := by decide +kernel
theorem dX7_load_110 : decode cX7_load 110 = .ok (.getfield 64, 3) := by decide +kernel
theorem dX7_load_113 : decode cX7_load 113 = .ok (.ifCond .lt 11, 3) := by decide +kernel
theorem dX7_load_116 : decode cX7_load 116 = .ok (.iload_n 1, 1) := by decide +kernel
theorem dX7_load_117 : decode cX7_load 117 = .ok (.ifCond .eq 7, 3) := by decide +kernel
theorem dX7_load_120 : decode cX7_load 120 = .ok (.iconst 1, 1) := by decide +kernel
theorem dX7_load_121 : decode cX7_load 121 = .ok (.goto 4, 3) := by decide +kernel
theorem dX7_load_124 : decode cX7_load 124 = .ok (.iconst 0, 1) := by decide +kernel
theorem dX7_load_125 : decode cX7_load 125 = .ok (.invokevirtual 77, 3) := by decide +kernel
theorem dX7_load_128 : decode cX7_load 128 = .ok (.istore_n 2, 1) := by decide +kernel
theorem dX7_load_129 : decode cX7_load 129 = .ok (.aload_n 0, 1) := by decide +kernel
theorem dX7_load_130 : decode cX7_load 130 = .ok (.invokevirtual 70, 3) := by decide +kernel
theorem dX7_load_133 : decode cX7_load 133 = .ok (.ifCond .eq 15, 3) := by decide +kernel
theorem dX7_load_136 : decode cX7_load 136 = .ok (.iload_n 2, 1) := by decide +kernel
theorem dX7_load_137 : decode cX7_load 137 = .ok (.iconst 4, 1) := by decide +kernel
theorem dX7_load_138 : decode cX7_load 138 = .ok (.if_icmp .ne 10, 3) := by decide +kernel
theorem dX7_load_141 : decode cX7_load 141 = .ok (.aload_n 0, 1) := by decide +kernel
theorem dX7_load_142 : decode cX7_load 142 = .ok (.invokevirtual 92, 3) := by decide +kernel
theorem dX7_load_145 : decode cX7_load 145 = .ok (.goto 15, 3) := by decide +kernel
theorem dX7_load_148 : decode cX7_load 148 = .ok (.aload_n 0, 1) := by decide +kernel
theorem dX7_load_149 : decode cX7_load 149 = .ok (.invokevirtual 70, 3) := by decide +kernel
theorem dX7_load_152 : decode cX7_load 152 = .ok (.ifCond .eq 8, 3) := by decide +kernel
theorem dX7_load_155 : decode cX7_load 155 = .ok (.aload_n 0, 1) := by decide +kernel
theorem dX7_load_156 : decode cX7_load 156 = .ok (.iload_n 2, 1) := by decide +kernel
theorem dX7_load_157 : decode cX7_load 157 = .ok (.invokevirtual 95, 3) := by decide +kernel
theorem dX7_load_160 : decode cX7_load 160 = .ok (.aload_n 0, 1) := by decide +kernel
theorem dX7_load_161 : decode cX7_load 161 = .ok (.aload_n 0, 1) := by decide +kernel
theorem dX7_load_162 : decode cX7_load 162 = .ok (.getfield 53, 3) := by decide +kernel
theorem dX7_load_165 : decode cX7_load 165 = .ok (.iconst 3, 1) := by decide +kernel
theorem dX7_load_166 : decode cX7_load 166 = .ok (.if_icmp .ne 7, 3) := by decide +kernel
theorem dX7_load_169 : decode cX7_load 169 = .ok (.iconst 1, 1) := by decide +kernel
theorem dX7_load_170 : decode cX7_load 170 = .ok (.goto 4, 3) := by decide +kernel
theorem dX7_load_173 : decode cX7_load 173 = .ok (.iconst 0, 1) := by decide +kernel
theorem dX7_load_174 : decode cX7_load 174 = .ok (.invokevirtual 77, 3) := by decide +kernel
theorem dX7_load_177 : decode cX7_load 177 = .ok (.pop, 1) := by decide +kernel
theorem dX7_load_178 : decode cX7_load 178 = .ok (.goto (-137), 3) := by decide +kernel
theorem dX7_load_181 : decode cX7_load 181 = .ok (.aload_n 0, 1) := by decide +kernel
theorem dX7_load_182 : decode cX7_load 182 = .ok (.invokevirtual 70, 3) := by decide +kernel
theorem dX7_load_185 : decode cX7_load 185 = .ok (.ifCond .ne 11, 3) := by decide +kernel
theorem dX7_load_188 : decode cX7_load 188 = .ok (.bipush (-10), 2) := by decide +kernel
theorem dX7_load_190 : decode cX7_load 190 = .ok (.aload_n 0, 1) := by decide +kernel
theorem dX7_load_191 : decode cX7_load 191 = .ok (.getfield 67, 3) := by decide +kernel
theorem dX7_load_194 : decode cX7_load 194 = .ok (.isub, 1) := by decide +kernel
theorem dX7_load_195 : decode cX7_load 195 = .ok (.ireturn, 1) := by decide +kernel
theorem dX7_load_196 : decode cX7_load 196 = .ok (.aload_n 0, 1) := by decide +kernel
theorem dX7_load_197 : decode cX7_load 197 = .ok (.invokevirtual 99, 3) := by decide +kernel
theorem dX7_load_200 : decode cX7_load 200 = .ok (.iconst 0, 1) := by decide +kernel
theorem dX7_load_201 : decode cX7_load 201 = .ok (.istore_n 1, 1) := by decide +kernel
theorem dX7_load_202 : decode cX7_load 202 = .ok (.iload_n 1, 1) := by decide +kernel
theorem dX7_load_203 : decode cX7_load 203 = .ok (.bipush 81, 2) := by decide +kernel
theorem dX7_load_205 : decode cX7_load 205 = .ok (.if_icmp .ge 21, 3) := by decide +kernel
theorem dX7_load_208 : decode cX7_load 208 = .ok (.aload_n 0, 1) := by decide +kernel
theorem dX7_load_209 : decode cX7_load 209 = .ok (.getfield 7, 3) := by decide +kernel
theorem dX7_load_212 : decode cX7_load 212 = .ok (.iload_n 1, 1) := by decide +kernel
theorem dX7_load_213 : decode cX7_load 213 = .ok (.aload_n 0, 1) := by decide +kernel
theorem dX7_load_214 : decode cX7_load 214 = .ok (.getfield 13, 3) := by decide +kernel
theorem dX7_load_217 : decode cX7_load 217 = .ok (.iload_n 1, 1) := by decide +kernel
theorem dX7_load_218 : decode cX7_load 218 = .ok (.iaload, 1) := by decide +kernel
theorem dX7_load_219 : decode cX7_load 219 = .ok (.iastore, 1) := by decide +kernel
theorem dX7_load_220 : decode cX7_load 220 = .ok (.iinc 1 1, 3) := by decide +kernel
theorem dX7_load_223 : decode cX7_load 223 = .ok (.goto (-21), 3) := by decide +kernel
theorem dX7_load_226 : decode cX7_load 226 = .ok (.aload_n 0, 1) := by decide +kernel
theorem dX7_load_227 : decode cX7_load 227 = .ok (.invokevirtual 102, 3) := by decide +kernel
theorem dX7_load_230 : decode cX7_load 230 = .ok (.aload_n 0, 1) := by decide +kernel
theorem dX7_load_231 : decode cX7_load 231 = .ok (.iconst 0, 1) := by decide +kernel
theorem dX7_load_232 : decode cX7_load 232 = .ok (.putfield 36, 3) := by decide +kernel
theorem dX7_load_235 : decode cX7_load 235 = .ok (.aload_n 0, 1) := by decide +kernel
theorem dX7_load_236 : decode cX7_load 236 = .ok (.getfield 7, 3) := by decide +kernel
theorem dX7_load_239 : decode cX7_load 239 = .ok (.iconst 0, 1) := by decide +kernel
theorem dX7_load_240 : decode cX7_load 240 = .ok (.iaload, 1) := by decide +kernel
theorem dX7_load_241 : decode cX7_load 241 = .ok (.ireturn, 1) := by decide +kernel
theorem dX7_mayHold_0 : decode cX7_mayHold 0 = .ok (.aload_n 0, 1) := by decide +kernel
theorem dX7_mayHold_1 : decode cX7_mayHold 1 = .ok (.iconst 0, 1) := by decide +kernel
theorem dX7_mayHold_2 : decode cX7_mayHold 2 = .ok (.putfield 32, 3) := by decide +kernel
theorem dX7_mayHold_5 : decode cX7_mayHold 5 = .ok (.aload_n 0, 1) := by decide +kernel
theorem dX7_mayHold_6 : decode cX7_mayHold 6 = .ok (.iload_n 1, 1) := by decide +kernel
theorem dX7_mayHold_7 : decode cX7_mayHold 7 = .ok (.iload_n 2, 1) := by decide +kernel
theorem dX7_mayHold_8 : decode cX7_mayHold 8 = .ok (.invokevirtual 166, 3) := by decide +kernel
theorem dX7_mayHold_11 : decode cX7_mayHold 11 = .ok (.ifCond .ne 7, 3) := by decide +kernel
theorem dX7_mayHold_14 : decode cX7_mayHold 14 = .ok (.iconst (-1), 1) := by decide +kernel
theorem dX7_mayHold_15 : decode cX7_mayHold 15 = .ok (.goto 19, 3) := by decide +kernel
theorem dX7_mayHold_18 : decode cX7_mayHold 18 = .ok (.aload_n 0, 1) := by decide +kernel
theorem dX7_mayHold_19 : decode cX7_mayHold 19 = .ok (.iload_n 1, 1) := by decide +kernel
theorem dX7_mayHold_20 : decode cX7_mayHold 20 = .ok (.iload_n 2, 1) := by decide +kernel
theorem dX7_mayHold_21 : decode cX7_mayHold 21 = .ok (.invokevirtual 169, 3) := by decide +kernel
theorem dX7_mayHold_24 : decode cX7_mayHold 24 = .ok (.bipush (-9), 2) := by decide +kernel
theorem dX7_mayHold_26 : decode cX7_mayHold 26 = .ok (.if_icmp .ne 7, 3) := by decide +kernel
theorem dX7_mayHold_29 : decode cX7_mayHold 29 = .ok (.iconst 0, 1) := by decide +kernel
theorem dX7_mayHold_30 : decode cX7_mayHold 30 = .ok (.goto 4, 3) := by decide +kernel
theorem dX7_mayHold_33 : decode cX7_mayHold 33 = .ok (.iconst 1, 1) := by decide +kernel
theorem dX7_mayHold_34 : decode cX7_mayHold 34 = .ok (.ireturn, 1) := by decide +kernel
theorem dX7_merge_0 : decode cX7_merge 0 = .ok (.iconst 0, 1) := by decide +kernel
theorem dX7_merge_1 : decode cX7_merge 1 = .ok (.istore_n 1, 1) := by decide +kernel
theorem dX7_merge_2 : decode cX7_merge 2 = .ok (.iconst 0, 1) := by decide +kernel
theorem dX7_merge_3 : decode cX7_merge 3 = .ok (.istore_n 2, 1) := by decide +kernel
theorem dX7_merge_4 : decode cX7_merge 4 = .ok (.iload_n 2, 1) := by decide +kernel
theorem dX7_merge_5 : decode cX7_merge 5 = .ok (.aload_n 0, 1) := by decide +kernel
theorem dX7_merge_6 : decode cX7_merge 6 = .ok (.getfield 7, 3) := by decide +kernel
theorem dX7_merge_9 : decode cX7_merge 9 = .ok (.iconst 0, 1) := by decide +kernel
theorem dX7_merge_10 : decode cX7_merge 10 = .ok (.iaload, 1) := by decide +kernel
theorem dX7_merge_11 : decode cX7_merge 11 = .ok (.if_icmp .ge 82, 3) := by decide +kernel
theorem dX7_merge_14 : decode cX7_merge 14 = .ok (.iconst 0, 1) := by decide +kernel
theorem dX7_merge_15 : decode cX7_merge 15 = .ok (.istore_n 3, 1) := by decide +kernel
theorem dX7_merge_16 : decode cX7_merge 16 = .ok (.iload_n 3, 1) := by decide +kernel
theorem dX7_merge_17 : decode cX7_merge 17 = .ok (.aload_n 0, 1) := by decide +kernel
theorem dX7_merge_18 : decode cX7_merge 18 = .ok (.getfield 7, 3) := by decide +kernel
theorem dX7_merge_21 : decode cX7_merge 21 = .ok (.iconst 0, 1) := by decide +kernel
theorem dX7_merge_22 : decode cX7_merge 22 = .ok (.iaload, 1) := by decide +kernel
theorem dX7_merge_23 : decode cX7_merge 23 = .ok (.if_icmp .ge 64, 3) := by decide +kernel
theorem dX7_merge_26 : decode cX7_merge 26 = .ok (.aload_n 0, 1) := by decide +kernel
theorem dX7_merge_27 : decode cX7_merge 27 = .ok (.getfield 22, 3) := by decide +kernel
theorem dX7_merge_30 : decode cX7_merge 30 = .ok (.bipush 10, 2) := by decide +kernel
theorem dX7_merge_32 : decode cX7_merge 32 = .ok (.iload_n 2, 1) := by decide +kernel
theorem dX7_merge_33 : decode cX7_merge 33 = .ok (.imul, 1) := by decide +kernel
theorem dX7_merge_34 : decode cX7_merge 34 = .ok (.iload_n 3, 1) := by decide +kernel
theorem dX7_merge_35 : decode cX7_merge 35 = .ok (.iadd, 1) := by decide +kernel
theorem dX7_merge_36 : decode cX7_merge 36 = .ok (.iaload, 1) := by decide +kernel
theorem dX7_merge_37 : decode cX7_merge 37 = .ok (.bipush (-9), 2) := by decide +kernel
theorem dX7_merge_39 : decode cX7_merge 39 = .ok (.if_icmp .eq 42, 3) := by decide +kernel
theorem dX7_merge_42 : decode cX7_merge 42 = .ok (.aload_n 0, 1) := by decide +kernel
theorem dX7_merge_43 : decode cX7_merge 43 = .ok (.aload_n 0, 1) := by decide +kernel
theorem dX7_merge_44 : decode cX7_merge 44 = .ok (.getfield 7, 3) := by decide +kernel
theorem dX7_merge_47 : decode cX7_merge 47 = .ok (.bipush 31, 2) := by decide +kernel
