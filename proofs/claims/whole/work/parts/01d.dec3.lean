theorem dX12_leads_199 : decode cX12_leads 199 = .ok (.getfield 13, 3) := by decide +kernel
theorem dX12_leads_202 : decode cX12_leads 202 = .ok (.iload_n 1, 1) := by decide +kernel
theorem dX12_leads_203 : decode cX12_leads 203 = .ok (.iaload, 1) := by decide +kernel
theorem dX12_leads_204 : decode cX12_leads 204 = .ok (.iconst 2, 1) := by decide +kernel
theorem dX12_leads_205 : decode cX12_leads 205 = .ok (.if_icmp .ne 7, 3) := by decide +kernel
theorem dX12_leads_208 : decode cX12_leads 208 = .ok (.iconst 1, 1) := by decide +kernel
theorem dX12_leads_209 : decode cX12_leads 209 = .ok (.goto 4, 3) := by decide +kernel
theorem dX12_leads_212 : decode cX12_leads 212 = .ok (.iconst 0, 1) := by decide +kernel
theorem dX12_leads_213 : decode cX12_leads 213 = .ok (.if_icmp .ne 44, 3) := by decide +kernel
theorem dX12_leads_216 : decode cX12_leads 216 = .ok (.aload_n 0, 1) := by decide +kernel
theorem dX12_leads_217 : decode cX12_leads 217 = .ok (.getfield 48, 3) := by decide +kernel
theorem dX12_leads_220 : decode cX12_leads 220 = .ok (.iload 4, 2) := by decide +kernel
theorem dX12_leads_222 : decode cX12_leads 222 = .ok (.laload, 1) := by decide +kernel
theorem dX12_leads_223 : decode cX12_leads 223 = .ok (.aload_n 0, 1) := by decide +kernel
theorem dX12_leads_224 : decode cX12_leads 224 = .ok (.getfield 22, 3) := by decide +kernel
theorem dX12_leads_227 : decode cX12_leads 227 = .ok (.iload_n 1, 1) := by decide +kernel
theorem dX12_leads_228 : decode cX12_leads 228 = .ok (.laload, 1) := by decide +kernel
theorem dX12_leads_229 : decode cX12_leads 229 = .ok (.lcmp, 1) := by decide +kernel
theorem dX12_leads_230 : decode cX12_leads 230 = .ok (.ifCond .lt 27, 3) := by decide +kernel
theorem dX12_leads_233 : decode cX12_leads 233 = .ok (.aload_n 0, 1) := by decide +kernel
theorem dX12_leads_234 : decode cX12_leads 234 = .ok (.getfield 48, 3) := by decide +kernel
theorem dX12_leads_237 : decode cX12_leads 237 = .ok (.iload 4, 2) := by decide +kernel
theorem dX12_leads_239 : decode cX12_leads 239 = .ok (.laload, 1) := by decide +kernel
theorem dX12_leads_240 : decode cX12_leads 240 = .ok (.aload_n 0, 1) := by decide +kernel
theorem dX12_leads_241 : decode cX12_leads 241 = .ok (.getfield 26, 3) := by decide +kernel
theorem dX12_leads_244 : decode cX12_leads 244 = .ok (.iload_n 1, 1) := by decide +kernel
theorem dX12_leads_245 : decode cX12_leads 245 = .ok (.laload, 1) := by decide +kernel
theorem dX12_leads_246 : decode cX12_leads 246 = .ok (.lcmp, 1) := by decide +kernel
theorem dX12_leads_247 : decode cX12_leads 247 = .ok (.ifCond .gt 10, 3) := by decide +kernel
theorem dX12_leads_250 : decode cX12_leads 250 = .ok (.iload_n 3, 1) := by decide +kernel
theorem dX12_leads_251 : decode cX12_leads 251 = .ok (.iconst 2, 1) := by decide +kernel
theorem dX12_leads_252 : decode cX12_leads 252 = .ok (.iload 4, 2) := by decide +kernel
theorem dX12_leads_254 : decode cX12_leads 254 = .ok (.ishl, 1) := by decide +kernel
theorem dX12_leads_255 : decode cX12_leads 255 = .ok (.ior, 1) := by decide +kernel
theorem dX12_leads_256 : decode cX12_leads 256 = .ok (.istore_n 3, 1) := by decide +kernel
theorem dX12_leads_257 : decode cX12_leads 257 = .ok (.iinc 4 1, 3) := by decide +kernel
theorem dX12_leads_260 : decode cX12_leads 260 = .ok (.goto (-88), 3) := by decide +kernel
theorem dX12_leads_263 : decode cX12_leads 263 = .ok (.iload_n 3, 1) := by decide +kernel
theorem dX12_leads_264 : decode cX12_leads 264 = .ok (.ireturn, 1) := by decide +kernel
theorem dX12_leadsAll_0 : decode cX12_leadsAll 0 = .ok (.bipush 32, 2) := by decide +kernel
theorem dX12_leadsAll_2 : decode cX12_leadsAll 2 = .ok (.aload_n 0, 1) := by decide +kernel
theorem dX12_leadsAll_3 : decode cX12_leadsAll 3 = .ok (.getfield 235, 3) := by decide +kernel
theorem dX12_leadsAll_6 : decode cX12_leadsAll 6 = .ok (.imul, 1) := by decide +kernel
theorem dX12_leadsAll_7 : decode cX12_leadsAll 7 = .ok (.istore_n 3, 1) := by decide +kernel
theorem dX12_leadsAll_8 : decode cX12_leadsAll 8 = .ok (.aload_n 0, 1) := by decide +kernel
theorem dX12_leadsAll_9 : decode cX12_leadsAll 9 = .ok (.dup, 1) := by decide +kernel
theorem dX12_leadsAll_10 : decode cX12_leadsAll 10 = .ok (.getfield 235, 3) := by decide +kernel
theorem dX12_leadsAll_13 : decode cX12_leadsAll 13 = .ok (.iconst 1, 1) := by decide +kernel
theorem dX12_leadsAll_14 : decode cX12_leadsAll 14 = .ok (.iadd, 1) := by decide +kernel
theorem dX12_leadsAll_15 : decode cX12_leadsAll 15 = .ok (.putfield 235, 3) := by decide +kernel
theorem dX12_leadsAll_18 : decode cX12_leadsAll 18 = .ok (.iconst 0, 1) := by decide +kernel
theorem dX12_leadsAll_19 : decode cX12_leadsAll 19 = .ok (.istore 4, 2) := by decide +kernel
theorem dX12_leadsAll_21 : decode cX12_leadsAll 21 = .ok (.aload_n 0, 1) := by decide +kernel
theorem dX12_leadsAll_22 : decode cX12_leadsAll 22 = .ok (.getfield 16, 3) := by decide +kernel
theorem dX12_leadsAll_25 : decode cX12_leadsAll 25 = .ok (.iload_n 1, 1) := by decide +kernel
theorem dX12_leadsAll_26 : decode cX12_leadsAll 26 = .ok (.iaload, 1) := by decide +kernel
theorem dX12_leadsAll_27 : decode cX12_leadsAll 27 = .ok (.istore 5, 2) := by decide +kernel
theorem dX12_leadsAll_29 : decode cX12_leadsAll 29 = .ok (.iload 5, 2) := by decide +kernel
theorem dX12_leadsAll_31 : decode cX12_leadsAll 31 = .ok (.iconst (-1), 1) := by decide +kernel
theorem dX12_leadsAll_32 : decode cX12_leadsAll 32 = .ok (.if_icmp .eq 18, 3) := by decide +kernel
theorem dX12_leadsAll_35 : decode cX12_leadsAll 35 = .ok (.iinc 4 1, 3) := by decide +kernel
theorem dX12_leadsAll_38 : decode cX12_leadsAll 38 = .ok (.aload_n 0, 1) := by decide +kernel
theorem dX12_leadsAll_39 : decode cX12_leadsAll 39 = .ok (.getfield 19, 3) := by decide +kernel
theorem dX12_leadsAll_42 : decode cX12_leadsAll 42 = .ok (.iload 5, 2) := by decide +kernel
theorem dX12_leadsAll_44 : decode cX12_leadsAll 44 = .ok (.iaload, 1) := by decide +kernel
theorem dX12_leadsAll_45 : decode cX12_leadsAll 45 = .ok (.istore 5, 2) := by decide +kernel
theorem dX12_leadsAll_47 : decode cX12_leadsAll 47 = .ok (.goto (-18), 3) := by decide +kernel
theorem dX12_leadsAll_50 : decode cX12_leadsAll 50 = .ok (.iconst 1, 1) := by decide +kernel
theorem dX12_leadsAll_51 : decode cX12_leadsAll 51 = .ok (.istore 5, 2) := by decide +kernel
theorem dX12_leadsAll_53 : decode cX12_leadsAll 53 = .ok (.iload 5, 2) := by decide +kernel
theorem dX12_leadsAll_55 : decode cX12_leadsAll 55 = .ok (.iconst 1, 1) := by decide +kernel
theorem dX12_leadsAll_56 : decode cX12_leadsAll 56 = .ok (.iload 4, 2) := by decide +kernel
theorem dX12_leadsAll_58 : decode cX12_leadsAll 58 = .ok (.ishl, 1) := by decide +kernel
theorem dX12_leadsAll_59 : decode cX12_leadsAll 59 = .ok (.if_icmp .ge 19, 3) := by decide +kernel
theorem dX12_leadsAll_62 : decode cX12_leadsAll 62 = .ok (.aload_n 0, 1) := by decide +kernel
theorem dX12_leadsAll_63 : decode cX12_leadsAll 63 = .ok (.getfield 51, 3) := by decide +kernel
theorem dX12_leadsAll_66 : decode cX12_leadsAll 66 = .ok (.iload_n 3, 1) := by decide +kernel
theorem dX12_leadsAll_67 : decode cX12_leadsAll 67 = .ok (.iload 5, 2) := by decide +kernel
theorem dX12_leadsAll_69 : decode cX12_leadsAll 69 = .ok (.iadd, 1) := by decide +kernel
theorem dX12_leadsAll_70 : decode cX12_leadsAll 70 = .ok (.iconst 0, 1) := by decide +kernel
theorem dX12_leadsAll_71 : decode cX12_leadsAll 71 = .ok (.iastore, 1) := by decide +kernel
theorem dX12_leadsAll_72 : decode cX12_leadsAll 72 = .ok (.iinc 5 1, 3) := by decide +kernel
theorem dX12_leadsAll_75 : decode cX12_leadsAll 75 = .ok (.goto (-22), 3) := by decide +kernel
theorem dX12_leadsAll_78 : decode cX12_leadsAll 78 = .ok (.aload_n 0, 1) := by decide +kernel
theorem dX12_leadsAll_79 : decode cX12_leadsAll 79 = .ok (.getfield 51, 3) := by decide +kernel
theorem dX12_leadsAll_82 : decode cX12_leadsAll 82 = .ok (.iload_n 3, 1) := by decide +kernel
theorem dX12_leadsAll_83 : decode cX12_leadsAll 83 = .ok (.iload_n 2, 1) := by decide +kernel
theorem dX12_leadsAll_84 : decode cX12_leadsAll 84 = .ok (.iastore, 1) := by decide +kernel
theorem dX12_leadsAll_85 : decode cX12_leadsAll 85 = .ok (.iconst 0, 1) := by decide +kernel
theorem dX12_leadsAll_86 : decode cX12_leadsAll 86 = .ok (.istore 5, 2) := by decide +kernel
theorem dX12_leadsAll_88 : decode cX12_leadsAll 88 = .ok (.iload 5, 2) := by decide +kernel
theorem dX12_leadsAll_90 : decode cX12_leadsAll 90 = .ok (.iconst 1, 1) := by decide +kernel
theorem dX12_leadsAll_91 : decode cX12_leadsAll 91 = .ok (.iload 4, 2) := by decide +kernel
theorem dX12_leadsAll_93 : decode cX12_leadsAll 93 = .ok (.ishl, 1) := by decide +kernel
theorem dX12_leadsAll_94 : decode cX12_leadsAll 94 = .ok (.if_icmp .ge 102, 3) := by decide +kernel
theorem dX12_leadsAll_97 : decode cX12_leadsAll 97 = .ok (.aload_n 0, 1) := by decide +kernel
theorem dX12_leadsAll_98 : decode cX12_leadsAll 98 = .ok (.getfield 51, 3) := by decide +kernel
theorem dX12_leadsAll_101 : decode cX12_leadsAll 101 = .ok (.iload_n 3, 1) := by decide +kernel
theorem dX12_leadsAll_102 : decode cX12_leadsAll 102 = .ok (.iload 5, 2) := by decide +kernel
theorem dX12_leadsAll_104 : decode cX12_leadsAll 104 = .ok (.iadd, 1) := by decide +kernel
theorem dX12_leadsAll_105 : decode cX12_leadsAll 105 = .ok (.iaload, 1) := by decide +kernel
theorem dX12_leadsAll_106 : decode cX12_leadsAll 106 = .ok (.ifCond .ne 6, 3) := by decide +kernel
theorem dX12_leadsAll_109 : decode cX12_leadsAll 109 = .ok (.goto 81, 3) := by decide +kernel
theorem dX12_leadsAll_112 : decode cX12_leadsAll 112 = .ok (.iconst 0, 1) := by decide +kernel
theorem dX12_leadsAll_113 : decode cX12_leadsAll 113 = .ok (.istore 6, 2) := by decide +kernel
theorem dX12_leadsAll_115 : decode cX12_leadsAll 115 = .ok (.aload_n 0, 1) := by decide +kernel
theorem dX12_leadsAll_116 : decode cX12_leadsAll 116 = .ok (.getfield 16, 3) := by decide +kernel
theorem dX12_leadsAll_119 : decode cX12_leadsAll 119 = .ok (.iload_n 1, 1) := by decide +kernel
theorem dX12_leadsAll_120 : decode cX12_leadsAll 120 = .ok (.iaload, 1) := by decide +kernel
theorem dX12_leadsAll_121 : decode cX12_leadsAll 121 = .ok (.istore 7, 2) := by decide +kernel
theorem dX12_leadsAll_123 : decode cX12_leadsAll 123 = .ok (.iload 7, 2) := by decide +kernel
theorem dX12_leadsAll_125 : decode cX12_leadsAll 125 = .ok (.iconst (-1), 1) := by decide +kernel
theorem dX12_leadsAll_126 : decode cX12_leadsAll 126 = .ok (.if_icmp .eq 64, 3) := by decide +kernel
theorem dX12_leadsAll_129 : decode cX12_leadsAll 129 = .ok (.iload 5, 2) := by decide +kernel
theorem dX12_leadsAll_131 : decode cX12_leadsAll 131 = .ok (.iload 6, 2) := by decide +kernel
theorem dX12_leadsAll_133 : decode cX12_leadsAll 133 = .ok (.ishr, 1) := by decide +kernel
theorem dX12_leadsAll_134 : decode cX12_leadsAll 134 = .ok (.iconst 1, 1) := by decide +kernel
theorem dX12_leadsAll_135 : decode cX12_leadsAll 135 = .ok (.iand, 1) := by decide +kernel
theorem dX12_leadsAll_136 : decode cX12_leadsAll 136 = .ok (.ifCond .ne 39, 3) := by decide +kernel
theorem dX12_leadsAll_139 : decode cX12_leadsAll 139 = .ok (.aload_n 0, 1) := by decide +kernel
theorem dX12_leadsAll_140 : decode cX12_leadsAll 140 = .ok (.iload 7, 2) := by decide +kernel
theorem dX12_leadsAll_142 : decode cX12_leadsAll 142 = .ok (.aload_n 0, 1) := by decide +kernel
theorem dX12_leadsAll_143 : decode cX12_leadsAll 143 = .ok (.getfield 51, 3) := by decide +kernel
theorem dX12_leadsAll_146 : decode cX12_leadsAll 146 = .ok (.iload_n 3, 1) := by decide +kernel
theorem dX12_leadsAll_147 : decode cX12_leadsAll 147 = .ok (.iload 5, 2) := by decide +kernel
theorem dX12_leadsAll_149 : decode cX12_leadsAll 149 = .ok (.iadd, 1) := by decide +kernel
theorem dX12_leadsAll_150 : decode cX12_leadsAll 150 = .ok (.iaload, 1) := by decide +kernel
theorem dX12_leadsAll_151 : decode cX12_leadsAll 151 = .ok (.invokevirtual 228, 3) := by decide +kernel
theorem dX12_leadsAll_154 : decode cX12_leadsAll 154 = .ok (.istore 8, 2) := by decide +kernel
theorem dX12_leadsAll_156 : decode cX12_leadsAll 156 = .ok (.aload_n 0, 1) := by decide +kernel
theorem dX12_leadsAll_157 : decode cX12_leadsAll 157 = .ok (.getfield 51, 3) := by decide +kernel
theorem dX12_leadsAll_160 : decode cX12_leadsAll 160 = .ok (.iload_n 3, 1) := by decide +kernel
theorem dX12_leadsAll_161 : decode cX12_leadsAll 161 = .ok (.iload 5, 2) := by decide +kernel
theorem dX12_leadsAll_163 : decode cX12_leadsAll 163 = .ok (.iconst 1, 1) := by decide +kernel
theorem dX12_leadsAll_164 : decode cX12_leadsAll 164 = .ok (.iload 6, 2) := by decide +kernel
theorem dX12_leadsAll_166 : decode cX12_leadsAll 166 = .ok (.ishl, 1) := by decide +kernel
theorem dX12_leadsAll_167 : decode cX12_leadsAll 167 = .ok (.ior, 1) := by decide +kernel
theorem dX12_leadsAll_168 : decode cX12_leadsAll 168 = .ok (.iadd, 1) := by decide +kernel
theorem dX12_leadsAll_169 : decode cX12_leadsAll 169 = .ok (.dup2, 1) := by decide +kernel
theorem dX12_leadsAll_170 : decode cX12_leadsAll 170 = .ok (.iaload, 1) := by decide +kernel
theorem dX12_leadsAll_171 : decode cX12_leadsAll 171 = .ok (.iload 8, 2) := by decide +kernel
theorem dX12_leadsAll_173 : decode cX12_leadsAll 173 = .ok (.ior, 1) := by decide +kernel
theorem dX12_leadsAll_174 : decode cX12_leadsAll 174 = .ok (.iastore, 1) := by decide +kernel
theorem dX12_leadsAll_175 : decode cX12_leadsAll 175 = .ok (.iinc 6 1, 3) := by decide +kernel
theorem dX12_leadsAll_178 : decode cX12_leadsAll 178 = .ok (.aload_n 0, 1) := by decide +kernel
theorem dX12_leadsAll_179 : decode cX12_leadsAll 179 = .ok (.getfield 19, 3) := by decide +kernel
theorem dX12_leadsAll_182 : decode cX12_leadsAll 182 = .ok (.iload 7, 2) := by decide +kernel
theorem dX12_leadsAll_184 : decode cX12_leadsAll 184 = .ok (.iaload, 1) := by decide +kernel
theorem dX12_leadsAll_185 : decode cX12_leadsAll 185 = .ok (.istore 7, 2) := by decide +kernel
theorem dX12_leadsAll_187 : decode cX12_leadsAll 187 = .ok (.goto (-64), 3) := by decide +kernel
theorem dX12_leadsAll_190 : decode cX12_leadsAll 190 = .ok (.iinc 5 1, 3) := by decide +kernel
theorem dX12_leadsAll_193 : decode cX12_leadsAll 193 = .ok (.goto (-105), 3) := by decide +kernel
theorem dX12_leadsAll_196 : decode cX12_leadsAll 196 = .ok (.aload_n 0, 1) := by decide +kernel
theorem dX12_leadsAll_197 : decode cX12_leadsAll 197 = .ok (.dup, 1) := by decide +kernel
theorem dX12_leadsAll_198 : decode cX12_leadsAll 198 = .ok (.getfield 235, 3) := by decide +kernel
theorem dX12_leadsAll_201 : decode cX12_leadsAll 201 = .ok (.iconst 1, 1) := by decide +kernel
theorem dX12_leadsAll_202 : decode cX12_leadsAll 202 = .ok (.isub, 1) := by decide +kernel
theorem dX12_leadsAll_203 : decode cX12_leadsAll 203 = .ok (.putfield 235, 3) := by decide +kernel
theorem dX12_leadsAll_206 : decode cX12_leadsAll 206 = .ok (.aload_n 0, 1) := by decide +kernel
theorem dX12_leadsAll_207 : decode cX12_leadsAll 207 = .ok (.getfield 51, 3) := by decide +kernel
theorem dX12_leadsAll_210 : decode cX12_leadsAll 210 = .ok (.iload_n 3, 1) := by decide +kernel
theorem dX12_leadsAll_211 : decode cX12_leadsAll 211 = .ok (.iconst 1, 1) := by decide +kernel
theorem dX12_leadsAll_212 : decode cX12_leadsAll 212 = .ok (.iload 4, 2) := by decide +kernel
theorem dX12_leadsAll_214 : decode cX12_leadsAll 214 = .ok (.ishl, 1) := by decide +kernel
theorem dX12_leadsAll_215 : decode cX12_leadsAll 215 = .ok (.iadd, 1) := by decide +kernel
theorem dX12_leadsAll_216 : decode cX12_leadsAll 216 = .ok (.iconst 1, 1) := by decide +kernel
theorem dX12_leadsAll_217 : decode cX12_leadsAll 217 = .ok (.isub, 1) := by decide +kernel
theorem dX12_leadsAll_218 : decode cX12_leadsAll 218 = .ok (.iaload, 1) := by decide +kernel
theorem dX12_leadsAll_219 : decode cX12_leadsAll 219 = .ok (.ireturn, 1) := by decide +kernel
theorem dX12_isTaken_0 : decode cX12_isTaken 0 = .ok (.aload_n 0, 1) := by decide +kernel
theorem dX12_isTaken_1 : decode cX12_isTaken 1 = .ok (.iconst 0, 1) := by decide +kernel
theorem dX12_isTaken_2 : decode cX12_isTaken 2 = .ok (.putfield 235, 3) := by decide +kernel
theorem dX12_isTaken_5 : decode cX12_isTaken 5 = .ok (.aload_n 0, 1) := by decide +kernel
theorem dX12_isTaken_6 : decode cX12_isTaken 6 = .ok (.sipush 420, 3) := by decide +kernel
theorem dX12_isTaken_9 : decode cX12_isTaken 9 = .ok (.iload_n 1, 1) := by decide +kernel
theorem dX12_isTaken_10 : decode cX12_isTaken 10 = .ok (.imul, 1) := by decide +kernel
theorem dX12_isTaken_11 : decode cX12_isTaken 11 = .ok (.iconst 1, 1) := by decide +kernel
theorem dX12_isTaken_12 : decode cX12_isTaken 12 = .ok (.invokevirtual 228, 3) := by decide +kernel
theorem dX12_isTaken_15 : decode cX12_isTaken 15 = .ok (.aload_n 0, 1) := by decide +kernel
theorem dX12_isTaken_16 : decode cX12_isTaken 16 = .ok (.getfield 225, 3) := by decide +kernel
theorem dX12_isTaken_19 : decode cX12_isTaken 19 = .ok (.ishr, 1) := by decide +kernel
theorem dX12_isTaken_20 : decode cX12_isTaken 20 = .ok (.iconst 1, 1) := by decide +kernel
theorem dX12_isTaken_21 : decode cX12_isTaken 21 = .ok (.iand, 1) := by decide +kernel
theorem dX12_isTaken_22 : decode cX12_isTaken 22 = .ok (.iconst 1, 1) := by decide +kernel
theorem dX12_isTaken_23 : decode cX12_isTaken 23 = .ok (.if_icmp .ne 7, 3) := by decide +kernel
theorem dX12_isTaken_26 : decode cX12_isTaken 26 = .ok (.iconst 1, 1) := by decide +kernel
theorem dX12_isTaken_27 : decode cX12_isTaken 27 = .ok (.goto 4, 3) := by decide +kernel
theorem dX12_isTaken_30 : decode cX12_isTaken 30 = .ok (.iconst 0, 1) := by decide +kernel
theorem dX12_isTaken_31 : decode cX12_isTaken 31 = .ok (.ireturn, 1) := by decide +kernel
theorem dX12_isQuestion_0 : decode cX12_isQuestion 0 = .ok (.iload_n 1, 1) := by decide +kernel
theorem dX12_isQuestion_1 : decode cX12_isQuestion 1 = .ok (.ifCond .lt 15, 3) := by decide +kernel
theorem dX12_isQuestion_4 : decode cX12_isQuestion 4 = .ok (.iload_n 1, 1) := by decide +kernel
theorem dX12_isQuestion_5 : decode cX12_isQuestion 5 = .ok (.aload_n 0, 1) := by decide +kernel
theorem dX12_isQuestion_6 : decode cX12_isQuestion 6 = .ok (.getfield 181, 3) := by decide +kernel
theorem dX12_isQuestion_9 : decode cX12_isQuestion 9 = .ok (.if_icmp .ge 7, 3) := by decide +kernel
theorem dX12_isQuestion_12 : decode cX12_isQuestion 12 = .ok (.iconst 1, 1) := by decide +kernel
theorem dX12_isQuestion_13 : decode cX12_isQuestion 13 = .ok (.goto 4, 3) := by decide +kernel
theorem dX12_isQuestion_16 : decode cX12_isQuestion 16 = .ok (.iconst 0, 1) := by decide +kernel
theorem dX12_isQuestion_17 : decode cX12_isQuestion 17 = .ok (.ireturn, 1) := by decide +kernel
theorem dX12_takes_0 : decode cX12_takes 0 = .ok (.aload_n 0, 1) := by decide +kernel
theorem dX12_takes_1 : decode cX12_takes 1 = .ok (.iconst 0, 1) := by decide +kernel
theorem dX12_takes_2 : decode cX12_takes 2 = .ok (.putfield 123, 3) := by decide +kernel
theorem dX12_takes_5 : decode cX12_takes 5 = .ok (.aload_n 0, 1) := by decide +kernel
theorem dX12_takes_6 : decode cX12_takes 6 = .ok (.invokevirtual 238, 3) := by decide +kernel
theorem dX12_takes_9 : decode cX12_takes 9 = .ok (.istore_n 2, 1) := by decide +kernel
theorem dX12_takes_10 : decode cX12_takes 10 = .ok (.aload_n 0, 1) := by decide +kernel
theorem dX12_takes_11 : decode cX12_takes 11 = .ok (.iload_n 1, 1) := by decide +kernel
theorem dX12_takes_12 : decode cX12_takes 12 = .ok (.invokevirtual 241, 3) := by decide +kernel
theorem dX12_takes_15 : decode cX12_takes 15 = .ok (.ifCond .eq 7, 3) := by decide +kernel
theorem dX12_takes_18 : decode cX12_takes 18 = .ok (.iload_n 2, 1) := by decide +kernel
theorem dX12_takes_19 : decode cX12_takes 19 = .ok (.ifCond .ne 7, 3) := by decide +kernel
theorem dX12_takes_22 : decode cX12_takes 22 = .ok (.iconst (-1), 1) := by decide +kernel
theorem dX12_takes_23 : decode cX12_takes 23 = .ok (.goto 16, 3) := by decide +kernel
theorem dX12_takes_26 : decode cX12_takes 26 = .ok (.aload_n 0, 1) := by decide +kernel
theorem dX12_takes_27 : decode cX12_takes 27 = .ok (.iload_n 1, 1) := by decide +kernel
theorem dX12_takes_28 : decode cX12_takes 28 = .ok (.invokevirtual 244, 3) := by decide +kernel
theorem dX12_takes_31 : decode cX12_takes 31 = .ok (.ifCond .eq 7, 3) := by decide +kernel
theorem dX12_takes_34 : decode cX12_takes 34 = .ok (.iconst 1, 1) := by decide +kernel
theorem dX12_takes_35 : decode cX12_takes 35 = .ok (.goto 4, 3) := by decide +kernel
theorem dX12_takes_38 : decode cX12_takes 38 = .ok (.iconst 0, 1) := by decide +kernel
theorem dX12_takes_39 : decode cX12_takes 39 = .ok (.ireturn, 1) := by decide +kernel
theorem dX12_strike_0 : decode cX12_strike 0 = .ok (.aload_n 0, 1) := by decide +kernel
theorem dX12_strike_1 : decode cX12_strike 1 = .ok (.iconst 0, 1) := by decide +kernel
theorem dX12_strike_2 : decode cX12_strike 2 = .ok (.putfield 123, 3) := by decide +kernel
theorem dX12_strike_5 : decode cX12_strike 5 = .ok (.aload_n 0, 1) := by decide +kernel
theorem dX12_strike_6 : decode cX12_strike 6 = .ok (.iload_n 1, 1) := by decide +kernel
theorem dX12_strike_7 : decode cX12_strike 7 = .ok (.invokevirtual 241, 3) := by decide +kernel
theorem dX12_strike_10 : decode cX12_strike 10 = .ok (.ifCond .eq 20, 3) := by decide +kernel
theorem dX12_strike_13 : decode cX12_strike 13 = .ok (.aload_n 0, 1) := by decide +kernel
theorem dX12_strike_14 : decode cX12_strike 14 = .ok (.getfield 247, 3) := by decide +kernel
theorem dX12_strike_17 : decode cX12_strike 17 = .ok (.ifCond .ne 13, 3) := by decide +kernel
theorem dX12_strike_20 : decode cX12_strike 20 = .ok (.aload_n 0, 1) := by decide +kernel
theorem dX12_strike_21 : decode cX12_strike 21 = .ok (.getfield 41, 3) := by decide +kernel
theorem dX12_strike_24 : decode cX12_strike 24 = .ok (.iload_n 1, 1) := by decide +kernel
theorem dX12_strike_25 : decode cX12_strike 25 = .ok (.baload, 1) := by decide +kernel
theorem dX12_strike_26 : decode cX12_strike 26 = .ok (.iload_n 2, 1) := by decide +kernel
theorem dX12_strike_27 : decode cX12_strike 27 = .ok (.if_icmp .ne 5, 3) := by decide +kernel
theorem dX12_strike_30 : decode cX12_strike 30 = .ok (.iconst 0, 1) := by decide +kernel
theorem dX12_strike_31 : decode cX12_strike 31 = .ok (.ireturn, 1) := by decide +kernel
theorem dX12_strike_32 : decode cX12_strike 32 = .ok (.aload_n 0, 1) := by decide +kernel
theorem dX12_strike_33 : decode cX12_strike 33 = .ok (.getfield 41, 3) := by decide +kernel
theorem dX12_strike_36 : decode cX12_strike 36 = .ok (.iload_n 1, 1) := by decide +kernel
theorem dX12_strike_37 : decode cX12_strike 37 = .ok (.iload_n 2, 1) := by decide +kernel
theorem dX12_strike_38 : decode cX12_strike 38 = .ok (.bastore, 1) := by decide +kernel
theorem dX12_strike_39 : decode cX12_strike 39 = .ok (.iconst 1, 1) := by decide +kernel
theorem dX12_strike_40 : decode cX12_strike 40 = .ok (.ireturn, 1) := by decide +kernel
theorem dX12_hard_0 : decode cX12_hard 0 = .ok (.aload_n 0, 1) := by decide +kernel
theorem dX12_hard_1 : decode cX12_hard 1 = .ok (.getfield 32, 3) := by decide +kernel
theorem dX12_hard_4 : decode cX12_hard 4 = .ok (.iload_n 1, 1) := by decide +kernel
theorem dX12_hard_5 : decode cX12_hard 5 = .ok (.iaload, 1) := by decide +kernel
theorem dX12_hard_6 : decode cX12_hard 6 = .ok (.ifCond .ne 8, 3) := by decide +kernel
theorem dX12_hard_9 : decode cX12_hard 9 = .ok (.bipush 50, 2) := by decide +kernel
theorem dX12_hard_11 : decode cX12_hard 11 = .ok (.goto 19, 3) := by decide +kernel
theorem dX12_hard_14 : decode cX12_hard 14 = .ok (.bipush 100, 2) := by decide +kernel
theorem dX12_hard_16 : decode cX12_hard 16 = .ok (.aload_n 0, 1) := by decide +kernel
theorem dX12_hard_17 : decode cX12_hard 17 = .ok (.getfield 35, 3) := by decide +kernel
theorem dX12_hard_20 : decode cX12_hard 20 = .ok (.iload_n 1, 1) := by decide +kernel
theorem dX12_hard_21 : decode cX12_hard 21 = .ok (.iaload, 1) := by decide +kernel
theorem dX12_hard_22 : decode cX12_hard 22 = .ok (.imul, 1) := by decide +kernel
theorem dX12_hard_23 : decode cX12_hard 23 = .ok (.aload_n 0, 1) := by decide +kernel
theorem dX12_hard_24 : decode cX12_hard 24 = .ok (.getfield 32, 3) := by decide +kernel
theorem dX12_hard_27 : decode cX12_hard 27 = .ok (.iload_n 1, 1) := by decide +kernel
theorem dX12_hard_28 : decode cX12_hard 28 = .ok (.iaload, 1) := by decide +kernel
theorem dX12_hard_29 : decode cX12_hard 29 = .ok (.idiv, 1) := by decide +kernel
theorem dX12_hard_30 : decode cX12_hard 30 = .ok (.ireturn, 1) := by decide +kernel
theorem dX12_asked_0 : decode cX12_asked 0 = .ok (.aload_n 0, 1) := by decide +kernel
theorem dX12_asked_1 : decode cX12_asked 1 = .ok (.aload_n 0, 1) := by decide +kernel
theorem dX12_asked_2 : decode cX12_asked 2 = .ok (.iload_n 1, 1) := by decide +kernel
theorem dX12_asked_3 : decode cX12_asked 3 = .ok (.invokevirtual 241, 3) := by decide +kernel
theorem dX12_asked_6 : decode cX12_asked 6 = .ok (.ifCond .eq 12, 3) := by decide +kernel
theorem dX12_asked_9 : decode cX12_asked 9 = .ok (.iload_n 2, 1) := by decide +kernel
theorem dX12_asked_10 : decode cX12_asked 10 = .ok (.ifCond .lt 8, 3) := by decide +kernel
theorem dX12_asked_13 : decode cX12_asked 13 = .ok (.iload_n 2, 1) := by decide +kernel
theorem dX12_asked_14 : decode cX12_asked 14 = .ok (.iconst 5, 1) := by decide +kernel
theorem dX12_asked_15 : decode cX12_asked 15 = .ok (.if_icmp .le 7, 3) := by decide +kernel
theorem dX12_asked_18 : decode cX12_asked 18 = .ok (.iconst 1, 1) := by decide +kernel
theorem dX12_asked_19 : decode cX12_asked 19 = .ok (.goto 4, 3) := by decide +kernel
theorem dX12_asked_22 : decode cX12_asked 22 = .ok (.iconst 0, 1) := by decide +kernel
theorem dX12_asked_23 : decode cX12_asked 23 = .ok (.putfield 123, 3) := by decide +kernel
theorem dX12_asked_26 : decode cX12_asked 26 = .ok (.aload_n 0, 1) := by decide +kernel
theorem dX12_asked_27 : decode cX12_asked 27 = .ok (.getfield 123, 3) := by decide +kernel
theorem dX12_asked_30 : decode cX12_asked 30 = .ok (.ifCond .le 5, 3) := by decide +kernel
theorem dX12_asked_33 : decode cX12_asked 33 = .ok (.iconst 0, 1) := by decide +kernel
theorem dX12_asked_34 : decode cX12_asked 34 = .ok (.ireturn, 1) := by decide +kernel
theorem dX12_asked_35 : decode cX12_asked 35 = .ok (.iload_n 2, 1) := by decide +kernel
theorem dX12_asked_36 : decode cX12_asked 36 = .ok (.tableswitch 78 0 4 #[36, 43, 50, 57, 63], 36) := by decide +kernel
theorem dX12_asked_72 : decode cX12_asked 72 = .ok (.aload_n 0, 1) := by decide +kernel
theorem dX12_asked_73 : decode cX12_asked 73 = .ok (.getfield 29, 3) := by decide +kernel
theorem dX12_asked_76 : decode cX12_asked 76 = .ok (.iload_n 1, 1) := by decide +kernel
theorem dX12_asked_77 : decode cX12_asked 77 = .ok (.iaload, 1) := by decide +kernel
theorem dX12_asked_78 : decode cX12_asked 78 = .ok (.ireturn, 1) := by decide +kernel
theorem dX12_asked_79 : decode cX12_asked 79 = .ok (.aload_n 0, 1) := by decide +kernel
theorem dX12_asked_80 : decode cX12_asked 80 = .ok (.getfield 32, 3) := by decide +kernel
theorem dX12_asked_83 : decode cX12_asked 83 = .ok (.iload_n 1, 1) := by decide +kernel
theorem dX12_asked_84 : decode cX12_asked 84 = .ok (.iaload, 1) := by decide +kernel
theorem dX12_asked_85 : decode cX12_asked 85 = .ok (.ireturn, 1) := by decide +kernel
theorem dX12_asked_86 : decode cX12_asked 86 = .ok (.aload_n 0, 1) := by decide +kernel
theorem dX12_asked_87 : decode cX12_asked 87 = .ok (.getfield 35, 3) := by decide +kernel
theorem dX12_asked_90 : decode cX12_asked 90 = .ok (.iload_n 1, 1) := by decide +kernel
theorem dX12_asked_91 : decode cX12_asked 91 = .ok (.iaload, 1) := by decide +kernel
theorem dX12_asked_92 : decode cX12_asked 92 = .ok (.ireturn, 1) := by decide +kernel
theorem dX12_asked_93 : decode cX12_asked 93 = .ok (.aload_n 0, 1) := by decide +kernel
theorem dX12_asked_94 : decode cX12_asked 94 = .ok (.iload_n 1, 1) := by decide +kernel
theorem dX12_asked_95 : decode cX12_asked 95 = .ok (.invokevirtual 251, 3) := by decide +kernel
theorem dX12_asked_98 : decode cX12_asked 98 = .ok (.ireturn, 1) := by decide +kernel
theorem dX12_asked_99 : decode cX12_asked 99 = .ok (.aload_n 0, 1) := by decide +kernel
theorem dX12_asked_100 : decode cX12_asked 100 = .ok (.getfield 41, 3) := by decide +kernel
theorem dX12_asked_103 : decode cX12_asked 103 = .ok (.iload_n 1, 1) := by decide +kernel
theorem dX12_asked_104 : decode cX12_asked 104 = .ok (.baload, 1) := by decide +kernel
theorem dX12_asked_105 : decode cX12_asked 105 = .ok (.ifCond .eq 7, 3) := by decide +kernel
theorem dX12_asked_108 : decode cX12_asked 108 = .ok (.iconst 1, 1) := by decide +kernel
theorem dX12_asked_109 : decode cX12_asked 109 = .ok (.goto 4, 3) := by decide +kernel
theorem dX12_asked_112 : decode cX12_asked 112 = .ok (.iconst 0, 1) := by decide +kernel
theorem dX12_asked_113 : decode cX12_asked 113 = .ok (.ireturn, 1) := by decide +kernel
theorem dX12_asked_114 : decode cX12_asked 114 = .ok (.iconst 0, 1) := by decide +kernel
theorem dX12_asked_115 : decode cX12_asked 115 = .ok (.istore_n 3, 1) := by decide +kernel
theorem dX12_asked_116 : decode cX12_asked 116 = .ok (.iconst 0, 1) := by decide +kernel
theorem dX12_asked_117 : decode cX12_asked 117 = .ok (.istore 4, 2) := by decide +kernel
theorem dX12_asked_119 : decode cX12_asked 119 = .ok (.iload 4, 2) := by decide +kernel
theorem dX12_asked_121 : decode cX12_asked 121 = .ok (.bipush 12, 2) := by decide +kernel
theorem dX12_asked_123 : decode cX12_asked 123 = .ok (.if_icmp .ge 23, 3) := by decide +kernel
theorem dX12_asked_126 : decode cX12_asked 126 = .ok (.iload_n 3, 1) := by decide +kernel
theorem dX12_asked_127 : decode cX12_asked 127 = .ok (.aload_n 0, 1) := by decide +kernel
theorem dX12_asked_128 : decode cX12_asked 128 = .ok (.getfield 38, 3) := by decide +kernel
theorem dX12_asked_131 : decode cX12_asked 131 = .ok (.iload_n 1, 1) := by decide +kernel
theorem dX12_asked_132 : decode cX12_asked 132 = .ok (.iaload, 1) := by decide +kernel
theorem dX12_asked_133 : decode cX12_asked 133 = .ok (.iload 4, 2) := by decide +kernel
theorem dX12_asked_135 : decode cX12_asked 135 = .ok (.ishr, 1) := by decide +kernel
theorem dX12_asked_136 : decode cX12_asked 136 = .ok (.iconst 1, 1) := by decide +kernel
theorem dX12_asked_137 : decode cX12_asked 137 = .ok (.iand, 1) := by decide +kernel
theorem dX12_asked_138 : decode cX12_asked 138 = .ok (.iadd, 1) := by decide +kernel
theorem dX12_asked_139 : decode cX12_asked 139 = .ok (.istore_n 3, 1) := by decide +kernel
theorem dX12_asked_140 : decode cX12_asked 140 = .ok (.iinc 4 1, 3) := by decide +kernel
theorem dX12_asked_143 : decode cX12_asked 143 = .ok (.goto (-24), 3) := by decide +kernel
theorem dX12_asked_146 : decode cX12_asked 146 = .ok (.iload_n 3, 1) := by decide +kernel
theorem dX12_asked_147 : decode cX12_asked 147 = .ok (.ireturn, 1) := by decide +kernel
theorem dX12_isTeam_0 : decode cX12_isTeam 0 = .ok (.iload_n 0, 1) := by decide +kernel
theorem dX12_isTeam_1 : decode cX12_isTeam 1 = .ok (.ifCond .lt 13, 3) := by decide +kernel
theorem dX12_isTeam_4 : decode cX12_isTeam 4 = .ok (.iload_n 0, 1) := by decide +kernel
theorem dX12_isTeam_5 : decode cX12_isTeam 5 = .ok (.bipush 12, 2) := by decide +kernel
theorem dX12_isTeam_7 : decode cX12_isTeam 7 = .ok (.if_icmp .ge 7, 3) := by decide +kernel
theorem dX12_isTeam_10 : decode cX12_isTeam 10 = .ok (.iconst 1, 1) := by decide +kernel
theorem dX12_isTeam_11 : decode cX12_isTeam 11 = .ok (.goto 4, 3) := by decide +kernel
theorem dX12_isTeam_14 : decode cX12_isTeam 14 = .ok (.iconst 0, 1) := by decide +kernel
theorem dX12_isTeam_15 : decode cX12_isTeam 15 = .ok (.ireturn, 1) := by decide +kernel
theorem dX12_seen_0 : decode cX12_seen 0 = .ok (.aload_n 0, 1) := by decide +kernel
theorem dX12_seen_1 : decode cX12_seen 1 = .ok (.iconst 0, 1) := by decide +kernel
theorem dX12_seen_2 : decode cX12_seen 2 = .ok (.putfield 123, 3) := by decide +kernel
theorem dX12_seen_5 : decode cX12_seen 5 = .ok (.iload_n 1, 1) := by decide +kernel
theorem dX12_seen_6 : decode cX12_seen 6 = .ok (.invokestatic 254, 3) := by decide +kernel
theorem dX12_seen_9 : decode cX12_seen 9 = .ok (.ifCond .eq 29, 3) := by decide +kernel
theorem dX12_seen_12 : decode cX12_seen 12 = .ok (.aload_n 0, 1) := by decide +kernel
theorem dX12_seen_13 : decode cX12_seen 13 = .ok (.iload_n 2, 1) := by decide +kernel
theorem dX12_seen_14 : decode cX12_seen 14 = .ok (.invokevirtual 241, 3) := by decide +kernel
theorem dX12_seen_17 : decode cX12_seen 17 = .ok (.ifCond .eq 21, 3) := by decide +kernel
theorem dX12_seen_20 : decode cX12_seen 20 = .ok (.aload_n 0, 1) := by decide +kernel
theorem dX12_seen_21 : decode cX12_seen 21 = .ok (.getfield 38, 3) := by decide +kernel
theorem dX12_seen_24 : decode cX12_seen 24 = .ok (.iload_n 2, 1) := by decide +kernel
theorem dX12_seen_25 : decode cX12_seen 25 = .ok (.iaload, 1) := by decide +kernel
theorem dX12_seen_26 : decode cX12_seen 26 = .ok (.iload_n 1, 1) := by decide +kernel
theorem dX12_seen_27 : decode cX12_seen 27 = .ok (.ishr, 1) := by decide +kernel
theorem dX12_seen_28 : decode cX12_seen 28 = .ok (.iconst 1, 1) := by decide +kernel
theorem dX12_seen_29 : decode cX12_seen 29 = .ok (.iand, 1) := by decide +kernel
theorem dX12_seen_30 : decode cX12_seen 30 = .ok (.iconst 1, 1) := by decide +kernel
theorem dX12_seen_31 : decode cX12_seen 31 = .ok (.if_icmp .ne 7, 3) := by decide +kernel
theorem dX12_seen_34 : decode cX12_seen 34 = .ok (.iconst 1, 1) := by decide +kernel
theorem dX12_seen_35 : decode cX12_seen 35 = .ok (.goto 4, 3) := by decide +kernel
theorem dX12_seen_38 : decode cX12_seen 38 = .ok (.iconst 0, 1) := by decide +kernel
theorem dX12_seen_39 : decode cX12_seen 39 = .ok (.ireturn, 1) := by decide +kernel
theorem dX12_isKey_0 : decode cX12_isKey 0 = .ok (.lconst 0, 1) := by decide +kernel
theorem dX12_isKey_1 : decode cX12_isKey 1 = .ok (.lstore 6, 2) := by decide +kernel
theorem dX12_isKey_3 : decode cX12_isKey 3 = .ok (.iload_n 1, 1) := by decide +kernel
theorem dX12_isKey_4 : decode cX12_isKey 4 = .ok (.ifCond .le 11, 3) := by decide +kernel
theorem dX12_isKey_7 : decode cX12_isKey 7 = .ok (.iload_n 1, 1) := by decide +kernel
theorem dX12_isKey_8 : decode cX12_isKey 8 = .ok (.i2l, 1) := by decide +kernel
theorem dX12_isKey_9 : decode cX12_isKey 9 = .ok (.ldc2_w 169, 3) := by decide +kernel
theorem dX12_isKey_12 : decode cX12_isKey 12 = .ok (.lsub, 1) := by decide +kernel
theorem dX12_isKey_13 : decode cX12_isKey 13 = .ok (.lstore 6, 2) := by decide +kernel
theorem dX12_isKey_15 : decode cX12_isKey 15 = .ok (.iload_n 2, 1) := by decide +kernel
theorem dX12_isKey_16 : decode cX12_isKey 16 = .ok (.ifCond .le 18, 3) := by decide +kernel
theorem dX12_isKey_19 : decode cX12_isKey 19 = .ok (.ldc2_w 167, 3) := by decide +kernel
theorem dX12_isKey_22 : decode cX12_isKey 22 = .ok (.lload 6, 2) := by decide +kernel
theorem dX12_isKey_24 : decode cX12_isKey 24 = .ok (.lmul, 1) := by decide +kernel
theorem dX12_isKey_25 : decode cX12_isKey 25 = .ok (.iload_n 2, 1) := by decide +kernel
theorem dX12_isKey_26 : decode cX12_isKey 26 = .ok (.i2l, 1) := by decide +kernel
theorem dX12_isKey_27 : decode cX12_isKey 27 = .ok (.ladd, 1) := by decide +kernel
theorem dX12_isKey_28 : decode cX12_isKey 28 = .ok (.ldc2_w 169, 3) := by decide +kernel
theorem dX12_isKey_31 : decode cX12_isKey 31 = .ok (.lsub, 1) := by decide +kernel
theorem dX12_isKey_32 : decode cX12_isKey 32 = .ok (.lstore 6, 2) := by decide +kernel
theorem dX12_isKey_34 : decode cX12_isKey 34 = .ok (.iload_n 3, 1) := by decide +kernel
theorem dX12_isKey_35 : decode cX12_isKey 35 = .ok (.ifCond .le 18, 3) := by decide +kernel
theorem dX12_isKey_38 : decode cX12_isKey 38 = .ok (.ldc2_w 167, 3) := by decide +kernel
theorem dX12_isKey_41 : decode cX12_isKey 41 = .ok (.lload 6, 2) := by decide +kernel
theorem dX12_isKey_43 : decode cX12_isKey 43 = .ok (.lmul, 1) := by decide +kernel
theorem dX12_isKey_44 : decode cX12_isKey 44 = .ok (.iload_n 3, 1) := by decide +kernel
theorem dX12_isKey_45 : decode cX12_isKey 45 = .ok (.i2l, 1) := by decide +kernel
theorem dX12_isKey_46 : decode cX12_isKey 46 = .ok (.ladd, 1) := by decide +kernel
theorem dX12_isKey_47 : decode cX12_isKey 47 = .ok (.ldc2_w 169, 3) := by decide +kernel
theorem dX12_isKey_50 : decode cX12_isKey 50 = .ok (.lsub, 1) := by decide +kernel
theorem dX12_isKey_51 : decode cX12_isKey 51 = .ok (.lstore 6, 2) := by decide +kernel
theorem dX12_isKey_53 : decode cX12_isKey 53 = .ok (.iload 4, 2) := by decide +kernel
theorem dX12_isKey_55 : decode cX12_isKey 55 = .ok (.ifCond .le 19, 3) := by decide +kernel
theorem dX12_isKey_58 : decode cX12_isKey 58 = .ok (.ldc2_w 167, 3) := by decide +kernel
theorem dX12_isKey_61 : decode cX12_isKey 61 = .ok (.lload 6, 2) := by decide +kernel
theorem dX12_isKey_63 : decode cX12_isKey 63 = .ok (.lmul, 1) := by decide +kernel
theorem dX12_isKey_64 : decode cX12_isKey 64 = .ok (.iload 4, 2) := by decide +kernel
theorem dX12_isKey_66 : decode cX12_isKey 66 = .ok (.i2l, 1) := by decide +kernel
theorem dX12_isKey_67 : decode cX12_isKey 67 = .ok (.ladd, 1) := by decide +kernel
theorem dX12_isKey_68 : decode cX12_isKey 68 = .ok (.ldc2_w 169, 3) := by decide +kernel
theorem dX12_isKey_71 : decode cX12_isKey 71 = .ok (.lsub, 1) := by decide +kernel
theorem dX12_isKey_72 : decode cX12_isKey 72 = .ok (.lstore 6, 2) := by decide +kernel
theorem dX12_isKey_74 : decode cX12_isKey 74 = .ok (.iload 5, 2) := by decide +kernel
theorem dX12_isKey_76 : decode cX12_isKey 76 = .ok (.ifCond .le 19, 3) := by decide +kernel
theorem dX12_isKey_79 : decode cX12_isKey 79 = .ok (.ldc2_w 167, 3) := by decide +kernel
theorem dX12_isKey_82 : decode cX12_isKey 82 = .ok (.lload 6, 2) := by decide +kernel
theorem dX12_isKey_84 : decode cX12_isKey 84 = .ok (.lmul, 1) := by decide +kernel
theorem dX12_isKey_85 : decode cX12_isKey 85 = .ok (.iload 5, 2) := by decide +kernel
theorem dX12_isKey_87 : decode cX12_isKey 87 = .ok (.i2l, 1) := by decide +kernel
theorem dX12_isKey_88 : decode cX12_isKey 88 = .ok (.ladd, 1) := by decide +kernel
theorem dX12_isKey_89 : decode cX12_isKey 89 = .ok (.ldc2_w 169, 3) := by decide +kernel
theorem dX12_isKey_92 : decode cX12_isKey 92 = .ok (.lsub, 1) := by decide +kernel
theorem dX12_isKey_93 : decode cX12_isKey 93 = .ok (.lstore 6, 2) := by decide +kernel
theorem dX12_isKey_95 : decode cX12_isKey 95 = .ok (.aload_n 0, 1) := by decide +kernel
theorem dX12_isKey_96 : decode cX12_isKey 96 = .ok (.getfield 143, 3) := by decide +kernel
theorem dX12_isKey_99 : decode cX12_isKey 99 = .ok (.iconst 2, 1) := by decide +kernel
theorem dX12_isKey_100 : decode cX12_isKey 100 = .ok (.if_icmp .ne 17, 3) := by decide +kernel
theorem dX12_isKey_103 : decode cX12_isKey 103 = .ok (.aload_n 0, 1) := by decide +kernel
theorem dX12_isKey_104 : decode cX12_isKey 104 = .ok (.getfield 163, 3) := by decide +kernel
theorem dX12_isKey_107 : decode cX12_isKey 107 = .ok (.lload 6, 2) := by decide +kernel
theorem dX12_isKey_109 : decode cX12_isKey 109 = .ok (.lcmp, 1) := by decide +kernel
theorem dX12_isKey_110 : decode cX12_isKey 110 = .ok (.ifCond .ne 7, 3) := by decide +kernel
theorem dX12_isKey_113 : decode cX12_isKey 113 = .ok (.iconst 1, 1) := by decide +kernel
theorem dX12_isKey_114 : decode cX12_isKey 114 = .ok (.goto 4, 3) := by decide +kernel
theorem dX12_isKey_117 : decode cX12_isKey 117 = .ok (.iconst 0, 1) := by decide +kernel
theorem dX12_isKey_118 : decode cX12_isKey 118 = .ok (.ireturn, 1) := by decide +kernel
theorem dX12_number_0 : decode cX12_number 0 = .ok (.aload_n 0, 1) := by decide +kernel
theorem dX12_number_1 : decode cX12_number 1 = .ok (.getfield 143, 3) := by decide +kernel
theorem dX12_number_4 : decode cX12_number 4 = .ok (.iconst 3, 1) := by decide +kernel
theorem dX12_number_5 : decode cX12_number 5 = .ok (.if_icmp .eq 9, 3) := by decide +kernel
theorem dX12_number_8 : decode cX12_number 8 = .ok (.aload_n 0, 1) := by decide +kernel
theorem dX12_number_9 : decode cX12_number 9 = .ok (.iconst 1, 1) := by decide +kernel
theorem dX12_number_10 : decode cX12_number 10 = .ok (.invokevirtual 216, 3) := by decide +kernel
theorem dX12_number_13 : decode cX12_number 13 = .ok (.ireturn, 1) := by decide +kernel
theorem dX12_number_14 : decode cX12_number 14 = .ok (.aload_n 0, 1) := by decide +kernel
theorem dX12_number_15 : decode cX12_number 15 = .ok (.getfield 163, 3) := by decide +kernel
theorem dX12_number_18 : decode cX12_number 18 = .ok (.iload_n 1, 1) := by decide +kernel
theorem dX12_number_19 : decode cX12_number 19 = .ok (.i2l, 1) := by decide +kernel
theorem dX12_number_20 : decode cX12_number 20 = .ok (.lcmp, 1) := by decide +kernel
theorem dX12_number_21 : decode cX12_number 21 = .ok (.ifCond .lt 13, 3) := by decide +kernel
theorem dX12_number_24 : decode cX12_number 24 = .ok (.aload_n 0, 1) := by decide +kernel
theorem dX12_number_25 : decode cX12_number 25 = .ok (.getfield 163, 3) := by decide +kernel
theorem dX12_number_28 : decode cX12_number 28 = .ok (.iload_n 2, 1) := by decide +kernel
theorem dX12_number_29 : decode cX12_number 29 = .ok (.i2l, 1) := by decide +kernel
theorem dX12_number_30 : decode cX12_number 30 = .ok (.lcmp, 1) := by decide +kernel
theorem dX12_number_31 : decode cX12_number 31 = .ok (.ifCond .le 9, 3) := by decide +kernel
theorem dX12_number_34 : decode cX12_number 34 = .ok (.aload_n 0, 1) := by decide +kernel
theorem dX12_number_35 : decode cX12_number 35 = .ok (.iconst 2, 1) := by decide +kernel
theorem dX12_number_36 : decode cX12_number 36 = .ok (.invokevirtual 216, 3) := by decide +kernel
theorem dX12_number_39 : decode cX12_number 39 = .ok (.ireturn, 1) := by decide +kernel
theorem dX12_number_40 : decode cX12_number 40 = .ok (.aload_n 0, 1) := by decide +kernel
theorem dX12_number_41 : decode cX12_number 41 = .ok (.getfield 163, 3) := by decide +kernel
theorem dX12_number_44 : decode cX12_number 44 = .ok (.l2i, 1) := by decide +kernel
theorem dX12_number_45 : decode cX12_number 45 = .ok (.istore_n 3, 1) := by decide +kernel
theorem dX12_number_46 : decode cX12_number 46 = .ok (.aload_n 0, 1) := by decide +kernel
theorem dX12_number_47 : decode cX12_number 47 = .ok (.iconst 0, 1) := by decide +kernel
theorem dX12_number_48 : decode cX12_number 48 = .ok (.invokevirtual 202, 3) := by decide +kernel
theorem dX12_number_51 : decode cX12_number 51 = .ok (.iload_n 3, 1) := by decide +kernel
theorem dX12_number_52 : decode cX12_number 52 = .ok (.ireturn, 1) := by decide +kernel
theorem dX12_readLaw_0 : decode cX12_readLaw 0 = .ok (.iconst 0, 1) := by decide +kernel
theorem dX12_readLaw_1 : decode cX12_readLaw 1 = .ok (.istore_n 1, 1) := by decide +kernel
theorem dX12_readLaw_2 : decode cX12_readLaw 2 = .ok (.aload_n 0, 1) := by decide +kernel
theorem dX12_readLaw_3 : decode cX12_readLaw 3 = .ok (.bipush 114, 2) := by decide +kernel
theorem dX12_readLaw_5 : decode cX12_readLaw 5 = .ok (.bipush 111, 2) := by decide +kernel
theorem dX12_readLaw_7 : decode cX12_readLaw 7 = .ok (.bipush 117, 2) := by decide +kernel
theorem dX12_readLaw_9 : decode cX12_readLaw 9 = .ok (.bipush 110, 2) := by decide +kernel
theorem dX12_readLaw_11 : decode cX12_readLaw 11 = .ok (.bipush 100, 2) := by decide +kernel
theorem dX12_readLaw_13 : decode cX12_readLaw 13 = .ok (.invokevirtual 257, 3) := by decide +kernel
theorem dX12_readLaw_16 : decode cX12_readLaw 16 = .ok (.ifCond .ne 9, 3) := by decide +kernel
theorem dX12_readLaw_19 : decode cX12_readLaw 19 = .ok (.aload_n 0, 1) := by decide +kernel
theorem dX12_readLaw_20 : decode cX12_readLaw 20 = .ok (.iconst 1, 1) := by decide +kernel
theorem dX12_readLaw_21 : decode cX12_readLaw 21 = .ok (.invokevirtual 213, 3) := by decide +kernel
theorem dX12_readLaw_24 : decode cX12_readLaw 24 = .ok (.ireturn, 1) := by decide +kernel
theorem dX12_readLaw_25 : decode cX12_readLaw 25 = .ok (.iload_n 1, 1) := by decide +kernel
theorem dX12_readLaw_26 : decode cX12_readLaw 26 = .ok (.bipush 6, 2) := by decide +kernel
theorem dX12_readLaw_28 : decode cX12_readLaw 28 = .ok (.if_icmp .ne 9, 3) := by decide +kernel
theorem dX12_readLaw_31 : decode cX12_readLaw 31 = .ok (.aload_n 0, 1) := by decide +kernel
theorem dX12_readLaw_32 : decode cX12_readLaw 32 = .ok (.iconst 3, 1) := by decide +kernel
theorem dX12_readLaw_33 : decode cX12_readLaw 33 = .ok (.invokevirtual 213, 3) := by decide +kernel
theorem dX12_readLaw_36 : decode cX12_readLaw 36 = .ok (.ireturn, 1) := by decide +kernel
theorem dX12_readLaw_37 : decode cX12_readLaw 37 = .ok (.aload_n 0, 1) := by decide +kernel
theorem dX12_readLaw_38 : decode cX12_readLaw 38 = .ok (.iconst 0, 1) := by decide +kernel
theorem dX12_readLaw_39 : decode cX12_readLaw 39 = .ok (.invokevirtual 202, 3) := by decide +kernel
theorem dX12_readLaw_42 : decode cX12_readLaw 42 = .ok (.aload_n 0, 1) := by decide +kernel
theorem dX12_readLaw_43 : decode cX12_readLaw 43 = .ok (.getfield 69, 3) := by decide +kernel
theorem dX12_readLaw_46 : decode cX12_readLaw 46 = .ok (.iload_n 1, 1) := by decide +kernel
theorem dX12_readLaw_47 : decode cX12_readLaw 47 = .ok (.aload_n 0, 1) := by decide +kernel
theorem dX12_readLaw_48 : decode cX12_readLaw 48 = .ok (.iconst 1, 1) := by decide +kernel
theorem dX12_readLaw_49 : decode cX12_readLaw 49 = .ok (.bipush 8, 2) := by decide +kernel
theorem dX12_readLaw_51 : decode cX12_readLaw 51 = .ok (.invokevirtual 261, 3) := by decide +kernel
theorem dX12_readLaw_54 : decode cX12_readLaw 54 = .ok (.iastore, 1) := by decide +kernel
theorem dX12_readLaw_55 : decode cX12_readLaw 55 = .ok (.aload_n 0, 1) := by decide +kernel
theorem dX12_readLaw_56 : decode cX12_readLaw 56 = .ok (.getfield 69, 3) := by decide +kernel
theorem dX12_readLaw_59 : decode cX12_readLaw 59 = .ok (.iload_n 1, 1) := by decide +kernel
theorem dX12_readLaw_60 : decode cX12_readLaw 60 = .ok (.iaload, 1) := by decide +kernel
theorem dX12_readLaw_61 : decode cX12_readLaw 61 = .ok (.iconst (-1), 1) := by decide +kernel
theorem dX12_readLaw_62 : decode cX12_readLaw 62 = .ok (.if_icmp .ne 5, 3) := by decide +kernel
theorem dX12_readLaw_65 : decode cX12_readLaw 65 = .ok (.iconst 0, 1) := by decide +kernel
theorem dX12_readLaw_66 : decode cX12_readLaw 66 = .ok (.ireturn, 1) := by decide +kernel
theorem dX12_readLaw_67 : decode cX12_readLaw 67 = .ok (.aload_n 0, 1) := by decide +kernel
theorem dX12_readLaw_68 : decode cX12_readLaw 68 = .ok (.getfield 81, 3) := by decide +kernel
theorem dX12_readLaw_71 : decode cX12_readLaw 71 = .ok (.iload_n 1, 1) := by decide +kernel
theorem dX12_readLaw_72 : decode cX12_readLaw 72 = .ok (.aload_n 0, 1) := by decide +kernel
theorem dX12_readLaw_73 : decode cX12_readLaw 73 = .ok (.bipush 98, 2) := by decide +kernel
theorem dX12_readLaw_75 : decode cX12_readLaw 75 = .ok (.bipush 117, 2) := by decide +kernel
theorem dX12_readLaw_77 : decode cX12_readLaw 77 = .ok (.bipush 122, 2) := by decide +kernel
theorem dX12_readLaw_79 : decode cX12_readLaw 79 = .ok (.bipush 122, 2) := by decide +kernel
theorem dX12_readLaw_81 : decode cX12_readLaw 81 = .ok (.iconst 0, 1) := by decide +kernel
theorem dX12_readLaw_82 : decode cX12_readLaw 82 = .ok (.invokevirtual 257, 3) := by decide +kernel
theorem dX12_readLaw_85 : decode cX12_readLaw 85 = .ok (.bastore, 1) := by decide +kernel
theorem dX12_readLaw_86 : decode cX12_readLaw 86 = .ok (.aload_n 0, 1) := by decide +kernel
theorem dX12_readLaw_87 : decode cX12_readLaw 87 = .ok (.getfield 81, 3) := by decide +kernel
theorem dX12_readLaw_90 : decode cX12_readLaw 90 = .ok (.iload_n 1, 1) := by decide +kernel
theorem dX12_readLaw_91 : decode cX12_readLaw 91 = .ok (.baload, 1) := by decide +kernel
theorem dX12_readLaw_92 : decode cX12_readLaw 92 = .ok (.ifCond .ne 26, 3) := by decide +kernel
theorem dX12_readLaw_95 : decode cX12_readLaw 95 = .ok (.aload_n 0, 1) := by decide +kernel
theorem dX12_readLaw_96 : decode cX12_readLaw 96 = .ok (.bipush 116, 2) := by decide +kernel
theorem dX12_readLaw_98 : decode cX12_readLaw 98 = .ok (.bipush 117, 2) := by decide +kernel
theorem dX12_readLaw_100 : decode cX12_readLaw 100 = .ok (.bipush 114, 2) := by decide +kernel
theorem dX12_readLaw_102 : decode cX12_readLaw 102 = .ok (.bipush 110, 2) := by decide +kernel
theorem dX12_readLaw_104 : decode cX12_readLaw 104 = .ok (.bipush 115, 2) := by decide +kernel
theorem dX12_readLaw_106 : decode cX12_readLaw 106 = .ok (.invokevirtual 257, 3) := by decide +kernel
theorem dX12_readLaw_109 : decode cX12_readLaw 109 = .ok (.ifCond .ne 9, 3) := by decide +kernel
theorem dX12_readLaw_112 : decode cX12_readLaw 112 = .ok (.aload_n 0, 1) := by decide +kernel
theorem dX12_readLaw_113 : decode cX12_readLaw 113 = .ok (.iconst 1, 1) := by decide +kernel
theorem dX12_readLaw_114 : decode cX12_readLaw 114 = .ok (.invokevirtual 213, 3) := by decide +kernel
theorem dX12_readLaw_117 : decode cX12_readLaw 117 = .ok (.ireturn, 1) := by decide +kernel
theorem dX12_readLaw_118 : decode cX12_readLaw 118 = .ok (.aload_n 0, 1) := by decide +kernel
theorem dX12_readLaw_119 : decode cX12_readLaw 119 = .ok (.iconst 0, 1) := by decide +kernel
theorem dX12_readLaw_120 : decode cX12_readLaw 120 = .ok (.invokevirtual 202, 3) := by decide +kernel
theorem dX12_readLaw_123 : decode cX12_readLaw 123 = .ok (.aload_n 0, 1) := by decide +kernel
theorem dX12_readLaw_124 : decode cX12_readLaw 124 = .ok (.bipush 114, 2) := by decide +kernel
theorem dX12_readLaw_126 : decode cX12_readLaw 126 = .ok (.bipush 105, 2) := by decide +kernel
theorem dX12_readLaw_128 : decode cX12_readLaw 128 = .ok (.bipush 103, 2) := by decide +kernel
theorem dX12_readLaw_130 : decode cX12_readLaw 130 = .ok (.bipush 104, 2) := by decide +kernel
theorem dX12_readLaw_132 : decode cX12_readLaw 132 = .ok (.bipush 116, 2) := by decide +kernel
theorem dX12_readLaw_134 : decode cX12_readLaw 134 = .ok (.invokevirtual 257, 3) := by decide +kernel
theorem dX12_readLaw_137 : decode cX12_readLaw 137 = .ok (.ifCond .ne 9, 3) := by decide +kernel
theorem dX12_readLaw_140 : decode cX12_readLaw 140 = .ok (.aload_n 0, 1) := by decide +kernel
theorem dX12_readLaw_141 : decode cX12_readLaw 141 = .ok (.iconst 1, 1) := by decide +kernel
theorem dX12_readLaw_142 : decode cX12_readLaw 142 = .ok (.invokevirtual 213, 3) := by decide +kernel
theorem dX12_readLaw_145 : decode cX12_readLaw 145 = .ok (.ireturn, 1) := by decide +kernel
theorem dX12_readLaw_146 : decode cX12_readLaw 146 = .ok (.aload_n 0, 1) := by decide +kernel
theorem dX12_readLaw_147 : decode cX12_readLaw 147 = .ok (.iconst 0, 1) := by decide +kernel
theorem dX12_readLaw_148 : decode cX12_readLaw 148 = .ok (.invokevirtual 202, 3) := by decide +kernel
theorem dX12_readLaw_151 : decode cX12_readLaw 151 = .ok (.aload_n 0, 1) := by decide +kernel
theorem dX12_readLaw_152 : decode cX12_readLaw 152 = .ok (.getfield 72, 3) := by decide +kernel
theorem dX12_readLaw_155 : decode cX12_readLaw 155 = .ok (.iload_n 1, 1) := by decide +kernel
theorem dX12_readLaw_156 : decode cX12_readLaw 156 = .ok (.aload_n 0, 1) := by decide +kernel
theorem dX12_readLaw_157 : decode cX12_readLaw 157 = .ok (.iconst 0, 1) := by decide +kernel
theorem dX12_readLaw_158 : decode cX12_readLaw 158 = .ok (.bipush 20, 2) := by decide +kernel
theorem dX12_readLaw_160 : decode cX12_readLaw 160 = .ok (.invokevirtual 261, 3) := by decide +kernel
theorem dX12_readLaw_163 : decode cX12_readLaw 163 = .ok (.iastore, 1) := by decide +kernel
theorem dX12_readLaw_164 : decode cX12_readLaw 164 = .ok (.aload_n 0, 1) := by decide +kernel
theorem dX12_readLaw_165 : decode cX12_readLaw 165 = .ok (.getfield 72, 3) := by decide +kernel
theorem dX12_readLaw_168 : decode cX12_readLaw 168 = .ok (.iload_n 1, 1) := by decide +kernel
theorem dX12_readLaw_169 : decode cX12_readLaw 169 = .ok (.iaload, 1) := by decide +kernel
theorem dX12_readLaw_170 : decode cX12_readLaw 170 = .ok (.iconst (-1), 1) := by decide +kernel
theorem dX12_readLaw_171 : decode cX12_readLaw 171 = .ok (.if_icmp .ne 5, 3) := by decide +kernel
theorem dX12_readLaw_174 : decode cX12_readLaw 174 = .ok (.iconst 0, 1) := by decide +kernel
theorem dX12_readLaw_175 : decode cX12_readLaw 175 = .ok (.ireturn, 1) := by decide +kernel
theorem dX12_readLaw_176 : decode cX12_readLaw 176 = .ok (.aload_n 0, 1) := by decide +kernel
theorem dX12_readLaw_177 : decode cX12_readLaw 177 = .ok (.getfield 75, 3) := by decide +kernel
theorem dX12_readLaw_180 : decode cX12_readLaw 180 = .ok (.iload_n 1, 1) := by decide +kernel
theorem dX12_readLaw_181 : decode cX12_readLaw 181 = .ok (.iconst (-1), 1) := by decide +kernel
theorem dX12_readLaw_182 : decode cX12_readLaw 182 = .ok (.iastore, 1) := by decide +kernel
theorem dX12_readLaw_183 : decode cX12_readLaw 183 = .ok (.aload_n 0, 1) := by decide +kernel
theorem dX12_readLaw_184 : decode cX12_readLaw 184 = .ok (.getfield 81, 3) := by decide +kernel
theorem dX12_readLaw_187 : decode cX12_readLaw 187 = .ok (.iload_n 1, 1) := by decide +kernel
theorem dX12_readLaw_188 : decode cX12_readLaw 188 = .ok (.baload, 1) := by decide +kernel
theorem dX12_readLaw_189 : decode cX12_readLaw 189 = .ok (.ifCond .ne 49, 3) := by decide +kernel
theorem dX12_readLaw_192 : decode cX12_readLaw 192 = .ok (.aload_n 0, 1) := by decide +kernel
theorem dX12_readLaw_193 : decode cX12_readLaw 193 = .ok (.bipush 112, 2) := by decide +kernel
theorem dX12_readLaw_195 : decode cX12_readLaw 195 = .ok (.bipush 97, 2) := by decide +kernel
theorem dX12_readLaw_197 : decode cX12_readLaw 197 = .ok (.bipush 115, 2) := by decide +kernel
theorem dX12_readLaw_199 : decode cX12_readLaw 199 = .ok (.bipush 115, 2) := by decide +kernel
theorem dX12_readLaw_201 : decode cX12_readLaw 201 = .ok (.iconst 0, 1) := by decide +kernel
theorem dX12_readLaw_202 : decode cX12_readLaw 202 = .ok (.invokevirtual 257, 3) := by decide +kernel
theorem dX12_readLaw_205 : decode cX12_readLaw 205 = .ok (.ifCond .eq 33, 3) := by decide +kernel
theorem dX12_readLaw_208 : decode cX12_readLaw 208 = .ok (.aload_n 0, 1) := by decide +kernel
theorem dX12_readLaw_209 : decode cX12_readLaw 209 = .ok (.iconst 0, 1) := by decide +kernel
theorem dX12_readLaw_210 : decode cX12_readLaw 210 = .ok (.invokevirtual 202, 3) := by decide +kernel
theorem dX12_readLaw_213 : decode cX12_readLaw 213 = .ok (.aload_n 0, 1) := by decide +kernel
theorem dX12_readLaw_214 : decode cX12_readLaw 214 = .ok (.getfield 75, 3) := by decide +kernel
theorem dX12_readLaw_217 : decode cX12_readLaw 217 = .ok (.iload_n 1, 1) := by decide +kernel
theorem dX12_readLaw_218 : decode cX12_readLaw 218 = .ok (.aload_n 0, 1) := by decide +kernel
theorem dX12_readLaw_219 : decode cX12_readLaw 219 = .ok (.iconst 0, 1) := by decide +kernel
theorem dX12_readLaw_220 : decode cX12_readLaw 220 = .ok (.bipush 20, 2) := by decide +kernel
theorem dX12_readLaw_222 : decode cX12_readLaw 222 = .ok (.invokevirtual 261, 3) := by decide +kernel
theorem dX12_readLaw_225 : decode cX12_readLaw 225 = .ok (.iastore, 1) := by decide +kernel
theorem dX12_readLaw_226 : decode cX12_readLaw 226 = .ok (.aload_n 0, 1) := by decide +kernel
theorem dX12_readLaw_227 : decode cX12_readLaw 227 = .ok (.getfield 75, 3) := by decide +kernel
theorem dX12_readLaw_230 : decode cX12_readLaw 230 = .ok (.iload_n 1, 1) := by decide +kernel
theorem dX12_readLaw_231 : decode cX12_readLaw 231 = .ok (.iaload, 1) := by decide +kernel
theorem dX12_readLaw_232 : decode cX12_readLaw 232 = .ok (.iconst (-1), 1) := by decide +kernel
theorem dX12_readLaw_233 : decode cX12_readLaw 233 = .ok (.if_icmp .ne 5, 3) := by decide +kernel
theorem dX12_readLaw_236 : decode cX12_readLaw 236 = .ok (.iconst 0, 1) := by decide +kernel
theorem dX12_readLaw_237 : decode cX12_readLaw 237 = .ok (.ireturn, 1) := by decide +kernel
theorem dX12_readLaw_238 : decode cX12_readLaw 238 = .ok (.aload_n 0, 1) := by decide +kernel
theorem dX12_readLaw_239 : decode cX12_readLaw 239 = .ok (.getfield 78, 3) := by decide +kernel
theorem dX12_readLaw_242 : decode cX12_readLaw 242 = .ok (.iload_n 1, 1) := by decide +kernel
theorem dX12_readLaw_243 : decode cX12_readLaw 243 = .ok (.iconst 0, 1) := by decide +kernel
theorem dX12_readLaw_244 : decode cX12_readLaw 244 = .ok (.iastore, 1) := by decide +kernel
theorem dX12_readLaw_245 : decode cX12_readLaw 245 = .ok (.aload_n 0, 1) := by decide +kernel
theorem dX12_readLaw_246 : decode cX12_readLaw 246 = .ok (.bipush 119, 2) := by decide +kernel
theorem dX12_readLaw_248 : decode cX12_readLaw 248 = .ok (.bipush 114, 2) := by decide +kernel
theorem dX12_readLaw_250 : decode cX12_readLaw 250 = .ok (.bipush 111, 2) := by decide +kernel
theorem dX12_readLaw_252 : decode cX12_readLaw 252 = .ok (.bipush 110, 2) := by decide +kernel
theorem dX12_readLaw_254 : decode cX12_readLaw 254 = .ok (.bipush 103, 2) := by decide +kernel
theorem dX12_readLaw_256 : decode cX12_readLaw 256 = .ok (.invokevirtual 257, 3) := by decide +kernel
theorem dX12_readLaw_259 : decode cX12_readLaw 259 = .ok (.ifCond .eq 33, 3) := by decide +kernel
theorem dX12_readLaw_262 : decode cX12_readLaw 262 = .ok (.aload_n 0, 1) := by decide +kernel
theorem dX12_readLaw_263 : decode cX12_readLaw 263 = .ok (.iconst 0, 1) := by decide +kernel
theorem dX12_readLaw_264 : decode cX12_readLaw 264 = .ok (.invokevirtual 202, 3) := by decide +kernel
theorem dX12_readLaw_267 : decode cX12_readLaw 267 = .ok (.aload_n 0, 1) := by decide +kernel
theorem dX12_readLaw_268 : decode cX12_readLaw 268 = .ok (.getfield 78, 3) := by decide +kernel
theorem dX12_readLaw_271 : decode cX12_readLaw 271 = .ok (.iload_n 1, 1) := by decide +kernel
theorem dX12_readLaw_272 : decode cX12_readLaw 272 = .ok (.aload_n 0, 1) := by decide +kernel
theorem dX12_readLaw_273 : decode cX12_readLaw 273 = .ok (.iconst 0, 1) := by decide +kernel
theorem dX12_readLaw_274 : decode cX12_readLaw 274 = .ok (.bipush 20, 2) := by decide +kernel
theorem dX12_readLaw_276 : decode cX12_readLaw 276 = .ok (.invokevirtual 261, 3) := by decide +kernel
theorem dX12_readLaw_279 : decode cX12_readLaw 279 = .ok (.iastore, 1) := by decide +kernel
theorem dX12_readLaw_280 : decode cX12_readLaw 280 = .ok (.aload_n 0, 1) := by decide +kernel
theorem dX12_readLaw_281 : decode cX12_readLaw 281 = .ok (.getfield 78, 3) := by decide +kernel
theorem dX12_readLaw_284 : decode cX12_readLaw 284 = .ok (.iload_n 1, 1) := by decide +kernel
theorem dX12_readLaw_285 : decode cX12_readLaw 285 = .ok (.iaload, 1) := by decide +kernel
theorem dX12_readLaw_286 : decode cX12_readLaw 286 = .ok (.iconst (-1), 1) := by decide +kernel
theorem dX12_readLaw_287 : decode cX12_readLaw 287 = .ok (.if_icmp .ne 5, 3) := by decide +kernel
theorem dX12_readLaw_290 : decode cX12_readLaw 290 = .ok (.iconst 0, 1) := by decide +kernel
theorem dX12_readLaw_291 : decode cX12_readLaw 291 = .ok (.ireturn, 1) := by decide +kernel
theorem dX12_readLaw_292 : decode cX12_readLaw 292 = .ok (.aload_n 0, 1) := by decide +kernel
theorem dX12_readLaw_293 : decode cX12_readLaw 293 = .ok (.bipush 59, 2) := by decide +kernel
theorem dX12_readLaw_295 : decode cX12_readLaw 295 = .ok (.invokevirtual 187, 3) := by decide +kernel
theorem dX12_readLaw_298 : decode cX12_readLaw 298 = .ok (.ifCond .ne 9, 3) := by decide +kernel
theorem dX12_readLaw_301 : decode cX12_readLaw 301 = .ok (.aload_n 0, 1) := by decide +kernel
theorem dX12_readLaw_302 : decode cX12_readLaw 302 = .ok (.iconst 1, 1) := by decide +kernel
theorem dX12_readLaw_303 : decode cX12_readLaw 303 = .ok (.invokevirtual 213, 3) := by decide +kernel
theorem dX12_readLaw_306 : decode cX12_readLaw 306 = .ok (.ireturn, 1) := by decide +kernel
theorem dX12_readLaw_307 : decode cX12_readLaw 307 = .ok (.aload_n 0, 1) := by decide +kernel
theorem dX12_readLaw_308 : decode cX12_readLaw 308 = .ok (.iconst 0, 1) := by decide +kernel
theorem dX12_readLaw_309 : decode cX12_readLaw 309 = .ok (.invokevirtual 202, 3) := by decide +kernel
theorem dX12_readLaw_312 : decode cX12_readLaw 312 = .ok (.iinc 1 1, 3) := by decide +kernel
theorem dX12_readLaw_315 : decode cX12_readLaw 315 = .ok (.aload_n 0, 1) := by decide +kernel
theorem dX12_readLaw_316 : decode cX12_readLaw 316 = .ok (.getfield 143, 3) := by decide +kernel
theorem dX12_readLaw_319 : decode cX12_readLaw 319 = .ok (.ifCond .ne (-317), 3) := by decide +kernel
theorem dX12_readLaw_322 : decode cX12_readLaw 322 = .ok (.aload_n 0, 1) := by decide +kernel
theorem dX12_readLaw_323 : decode cX12_readLaw 323 = .ok (.iload_n 1, 1) := by decide +kernel
theorem dX12_readLaw_324 : decode cX12_readLaw 324 = .ok (.putfield 264, 3) := by decide +kernel
theorem dX12_readLaw_327 : decode cX12_readLaw 327 = .ok (.iconst 1, 1) := by decide +kernel
theorem dX12_readLaw_328 : decode cX12_readLaw 328 = .ok (.ireturn, 1) := by decide +kernel
theorem dX12_law_0 : decode cX12_law 0 = .ok (.aload_n 0, 1) := by decide +kernel
theorem dX12_law_1 : decode cX12_law 1 = .ok (.iconst 0, 1) := by decide +kernel
theorem dX12_law_2 : decode cX12_law 2 = .ok (.putfield 123, 3) := by decide +kernel
theorem dX12_law_5 : decode cX12_law 5 = .ok (.aload_n 0, 1) := by decide +kernel
theorem dX12_law_6 : decode cX12_law 6 = .ok (.aload_n 0, 1) := by decide +kernel
theorem dX12_law_7 : decode cX12_law 7 = .ok (.getfield 127, 3) := by decide +kernel
theorem dX12_law_10 : decode cX12_law 10 = .ok (.putfield 134, 3) := by decide +kernel
theorem dX12_law_13 : decode cX12_law 13 = .ok (.aload_n 0, 1) := by decide +kernel
theorem dX12_law_14 : decode cX12_law 14 = .ok (.iconst 0, 1) := by decide +kernel
theorem dX12_law_15 : decode cX12_law 15 = .ok (.putfield 127, 3) := by decide +kernel
theorem dX12_law_18 : decode cX12_law 18 = .ok (.aload_n 0, 1) := by decide +kernel
theorem dX12_law_19 : decode cX12_law 19 = .ok (.getfield 247, 3) := by decide +kernel
theorem dX12_law_22 : decode cX12_law 22 = .ok (.ifCond .eq 7, 3) := by decide +kernel
theorem dX12_law_25 : decode cX12_law 25 = .ok (.sipush (-300), 3) := by decide +kernel
theorem dX12_law_28 : decode cX12_law 28 = .ok (.ireturn, 1) := by decide +kernel
theorem dX12_law_29 : decode cX12_law 29 = .ok (.aload_n 0, 1) := by decide +kernel
theorem dX12_law_30 : decode cX12_law 30 = .ok (.iconst 0, 1) := by decide +kernel
theorem dX12_law_31 : decode cX12_law 31 = .ok (.putfield 137, 3) := by decide +kernel
theorem dX12_law_34 : decode cX12_law 34 = .ok (.aload_n 0, 1) := by decide +kernel
theorem dX12_law_35 : decode cX12_law 35 = .ok (.iconst 0, 1) := by decide +kernel
theorem dX12_law_36 : decode cX12_law 36 = .ok (.putfield 175, 3) := by decide +kernel
theorem dX12_law_39 : decode cX12_law 39 = .ok (.aload_n 0, 1) := by decide +kernel
theorem dX12_law_40 : decode cX12_law 40 = .ok (.iconst 0, 1) := by decide +kernel
theorem dX12_law_41 : decode cX12_law 41 = .ok (.invokevirtual 202, 3) := by decide +kernel
theorem dX12_law_44 : decode cX12_law 44 = .ok (.aload_n 0, 1) := by decide +kernel
theorem dX12_law_45 : decode cX12_law 45 = .ok (.invokevirtual 267, 3) := by decide +kernel
theorem dX12_law_48 : decode cX12_law 48 = .ok (.ifCond .ne 10, 3) := by decide +kernel
theorem dX12_law_51 : decode cX12_law 51 = .ok (.iconst (-1), 1) := by decide +kernel
theorem dX12_law_52 : decode cX12_law 52 = .ok (.aload_n 0, 1) := by decide +kernel
theorem dX12_law_53 : decode cX12_law 53 = .ok (.getfield 178, 3) := by decide +kernel
theorem dX12_law_56 : decode cX12_law 56 = .ok (.isub, 1) := by decide +kernel
theorem dX12_law_57 : decode cX12_law 57 = .ok (.ireturn, 1) := by decide +kernel
theorem dX12_law_58 : decode cX12_law 58 = .ok (.aload_n 0, 1) := by decide +kernel
theorem dX12_law_59 : decode cX12_law 59 = .ok (.iconst 0, 1) := by decide +kernel
theorem dX12_law_60 : decode cX12_law 60 = .ok (.putfield 270, 3) := by decide +kernel
theorem dX12_law_63 : decode cX12_law 63 = .ok (.iconst 0, 1) := by decide +kernel
theorem dX12_law_64 : decode cX12_law 64 = .ok (.istore_n 1, 1) := by decide +kernel
theorem dX12_law_65 : decode cX12_law 65 = .ok (.iload_n 1, 1) := by decide +kernel
theorem dX12_law_66 : decode cX12_law 66 = .ok (.aload_n 0, 1) := by decide +kernel
theorem dX12_law_67 : decode cX12_law 67 = .ok (.getfield 264, 3) := by decide +kernel
theorem dX12_law_70 : decode cX12_law 70 = .ok (.if_icmp .ge 84, 3) := by decide +kernel
theorem dX12_law_73 : decode cX12_law 73 = .ok (.aload_n 0, 1) := by decide +kernel
theorem dX12_law_74 : decode cX12_law 74 = .ok (.getfield 54, 3) := by decide +kernel
theorem dX12_law_77 : decode cX12_law 77 = .ok (.iload_n 1, 1) := by decide +kernel
theorem dX12_law_78 : decode cX12_law 78 = .ok (.aload_n 0, 1) := by decide +kernel
theorem dX12_law_79 : decode cX12_law 79 = .ok (.getfield 69, 3) := by decide +kernel
theorem dX12_law_82 : decode cX12_law 82 = .ok (.iload_n 1, 1) := by decide +kernel
theorem dX12_law_83 : decode cX12_law 83 = .ok (.iaload, 1) := by decide +kernel
theorem dX12_law_84 : decode cX12_law 84 = .ok (.iastore, 1) := by decide +kernel
theorem dX12_law_85 : decode cX12_law 85 = .ok (.aload_n 0, 1) := by decide +kernel
theorem dX12_law_86 : decode cX12_law 86 = .ok (.getfield 57, 3) := by decide +kernel
theorem dX12_law_89 : decode cX12_law 89 = .ok (.iload_n 1, 1) := by decide +kernel
theorem dX12_law_90 : decode cX12_law 90 = .ok (.aload_n 0, 1) := by decide +kernel
theorem dX12_law_91 : decode cX12_law 91 = .ok (.getfield 72, 3) := by decide +kernel
theorem dX12_law_94 : decode cX12_law 94 = .ok (.iload_n 1, 1) := by decide +kernel
theorem dX12_law_95 : decode cX12_law 95 = .ok (.iaload, 1) := by decide +kernel
theorem dX12_law_96 : decode cX12_law 96 = .ok (.iastore, 1) := by decide +kernel
theorem dX12_law_97 : decode cX12_law 97 = .ok (.aload_n 0, 1) := by decide +kernel
theorem dX12_law_98 : decode cX12_law 98 = .ok (.getfield 60, 3) := by decide +kernel
theorem dX12_law_101 : decode cX12_law 101 = .ok (.iload_n 1, 1) := by decide +kernel
theorem dX12_law_102 : decode cX12_law 102 = .ok (.aload_n 0, 1) := by decide +kernel
theorem dX12_law_103 : decode cX12_law 103 = .ok (.getfield 75, 3) := by decide +kernel
theorem dX12_law_106 : decode cX12_law 106 = .ok (.iload_n 1, 1) := by decide +kernel
theorem dX12_law_107 : decode cX12_law 107 = .ok (.iaload, 1) := by decide +kernel
theorem dX12_law_108 : decode cX12_law 108 = .ok (.iastore, 1) := by decide +kernel
theorem dX12_law_109 : decode cX12_law 109 = .ok (.aload_n 0, 1) := by decide +kernel
theorem dX12_law_110 : decode cX12_law 110 = .ok (.getfield 63, 3) := by decide +kernel
theorem dX12_law_113 : decode cX12_law 113 = .ok (.iload_n 1, 1) := by decide +kernel
theorem dX12_law_114 : decode cX12_law 114 = .ok (.aload_n 0, 1) := by decide +kernel
theorem dX12_law_115 : decode cX12_law 115 = .ok (.getfield 78, 3) := by decide +kernel
theorem dX12_law_118 : decode cX12_law 118 = .ok (.iload_n 1, 1) := by decide +kernel
theorem dX12_law_119 : decode cX12_law 119 = .ok (.iaload, 1) := by decide +kernel
theorem dX12_law_120 : decode cX12_law 120 = .ok (.iastore, 1) := by decide +kernel
theorem dX12_law_121 : decode cX12_law 121 = .ok (.aload_n 0, 1) := by decide +kernel
theorem dX12_law_122 : decode cX12_law 122 = .ok (.getfield 66, 3) := by decide +kernel
theorem dX12_law_125 : decode cX12_law 125 = .ok (.iload_n 1, 1) := by decide +kernel
theorem dX12_law_126 : decode cX12_law 126 = .ok (.aload_n 0, 1) := by decide +kernel
theorem dX12_law_127 : decode cX12_law 127 = .ok (.getfield 81, 3) := by decide +kernel
theorem dX12_law_130 : decode cX12_law 130 = .ok (.iload_n 1, 1) := by decide +kernel
theorem dX12_law_131 : decode cX12_law 131 = .ok (.baload, 1) := by decide +kernel
theorem dX12_law_132 : decode cX12_law 132 = .ok (.bastore, 1) := by decide +kernel
theorem dX12_law_133 : decode cX12_law 133 = .ok (.aload_n 0, 1) := by decide +kernel
theorem dX12_law_134 : decode cX12_law 134 = .ok (.dup, 1) := by decide +kernel
theorem dX12_law_135 : decode cX12_law 135 = .ok (.getfield 270, 3) := by decide +kernel
theorem dX12_law_138 : decode cX12_law 138 = .ok (.aload_n 0, 1) := by decide +kernel
theorem dX12_law_139 : decode cX12_law 139 = .ok (.getfield 54, 3) := by decide +kernel
theorem dX12_law_142 : decode cX12_law 142 = .ok (.iload_n 1, 1) := by decide +kernel
theorem dX12_law_143 : decode cX12_law 143 = .ok (.iaload, 1) := by decide +kernel
theorem dX12_law_144 : decode cX12_law 144 = .ok (.iadd, 1) := by decide +kernel
theorem dX12_law_145 : decode cX12_law 145 = .ok (.putfield 270, 3) := by decide +kernel
theorem dX12_law_148 : decode cX12_law 148 = .ok (.iinc 1 1, 3) := by decide +kernel
theorem dX12_law_151 : decode cX12_law 151 = .ok (.goto (-86), 3) := by decide +kernel
theorem dX12_law_154 : decode cX12_law 154 = .ok (.aload_n 0, 1) := by decide +kernel
theorem dX12_law_155 : decode cX12_law 155 = .ok (.getfield 270, 3) := by decide +kernel
theorem dX12_law_158 : decode cX12_law 158 = .ok (.ireturn, 1) := by decide +kernel
theorem dX12_fault_0 : decode cX12_fault 0 = .ok (.aload_n 0, 1) := by decide +kernel
theorem dX12_fault_1 : decode cX12_fault 1 = .ok (.iconst 0, 1) := by decide +kernel
theorem dX12_fault_2 : decode cX12_fault 2 = .ok (.putfield 123, 3) := by decide +kernel
theorem dX12_fault_5 : decode cX12_fault 5 = .ok (.aload_n 0, 1) := by decide +kernel
theorem dX12_fault_6 : decode cX12_fault 6 = .ok (.getfield 175, 3) := by decide +kernel
theorem dX12_fault_9 : decode cX12_fault 9 = .ok (.ireturn, 1) := by decide +kernel
theorem dX12_mayCome_0 : decode cX12_mayCome 0 = .ok (.aload_n 0, 1) := by decide +kernel
theorem dX12_mayCome_1 : decode cX12_mayCome 1 = .ok (.getfield 41, 3) := by decide +kernel
theorem dX12_mayCome_4 : decode cX12_mayCome 4 = .ok (.iload_n 1, 1) := by decide +kernel
theorem dX12_mayCome_5 : decode cX12_mayCome 5 = .ok (.baload, 1) := by decide +kernel
theorem dX12_mayCome_6 : decode cX12_mayCome 6 = .ok (.ifCond .ne 49, 3) := by decide +kernel
theorem dX12_mayCome_9 : decode cX12_mayCome 9 = .ok (.aload_n 0, 1) := by decide +kernel
theorem dX12_mayCome_10 : decode cX12_mayCome 10 = .ok (.getfield 38, 3) := by decide +kernel
theorem dX12_mayCome_13 : decode cX12_mayCome 13 = .ok (.iload_n 1, 1) := by decide +kernel
theorem dX12_mayCome_14 : decode cX12_mayCome 14 = .ok (.iaload, 1) := by decide +kernel
theorem dX12_mayCome_15 : decode cX12_mayCome 15 = .ok (.iload_n 2, 1) := by decide +kernel
theorem dX12_mayCome_16 : decode cX12_mayCome 16 = .ok (.ishr, 1) := by decide +kernel
theorem dX12_mayCome_17 : decode cX12_mayCome 17 = .ok (.iconst 1, 1) := by decide +kernel
theorem dX12_mayCome_18 : decode cX12_mayCome 18 = .ok (.iand, 1) := by decide +kernel
theorem dX12_mayCome_19 : decode cX12_mayCome 19 = .ok (.ifCond .ne 36, 3) := by decide +kernel
theorem dX12_mayCome_22 : decode cX12_mayCome 22 = .ok (.aload_n 0, 1) := by decide +kernel
theorem dX12_mayCome_23 : decode cX12_mayCome 23 = .ok (.getfield 38, 3) := by decide +kernel
theorem dX12_mayCome_26 : decode cX12_mayCome 26 = .ok (.iload_n 1, 1) := by decide +kernel
theorem dX12_mayCome_27 : decode cX12_mayCome 27 = .ok (.iaload, 1) := by decide +kernel
theorem dX12_mayCome_28 : decode cX12_mayCome 28 = .ok (.iload_n 3, 1) := by decide +kernel
theorem dX12_mayCome_29 : decode cX12_mayCome 29 = .ok (.ishr, 1) := by decide +kernel
theorem dX12_mayCome_30 : decode cX12_mayCome 30 = .ok (.iconst 1, 1) := by decide +kernel
theorem dX12_mayCome_31 : decode cX12_mayCome 31 = .ok (.iand, 1) := by decide +kernel
theorem dX12_mayCome_32 : decode cX12_mayCome 32 = .ok (.ifCond .ne 23, 3) := by decide +kernel
theorem dX12_mayCome_35 : decode cX12_mayCome 35 = .ok (.aload_n 0, 1) := by decide +kernel
theorem dX12_mayCome_36 : decode cX12_mayCome 36 = .ok (.getfield 90, 3) := by decide +kernel
theorem dX12_mayCome_39 : decode cX12_mayCome 39 = .ok (.aload_n 0, 1) := by decide +kernel
theorem dX12_mayCome_40 : decode cX12_mayCome 40 = .ok (.getfield 29, 3) := by decide +kernel
theorem dX12_mayCome_43 : decode cX12_mayCome 43 = .ok (.iload_n 1, 1) := by decide +kernel
theorem dX12_mayCome_44 : decode cX12_mayCome 44 = .ok (.iaload, 1) := by decide +kernel
theorem dX12_mayCome_45 : decode cX12_mayCome 45 = .ok (.iaload, 1) := by decide +kernel
theorem dX12_mayCome_46 : decode cX12_mayCome 46 = .ok (.iload 4, 2) := by decide +kernel
theorem dX12_mayCome_48 : decode cX12_mayCome 48 = .ok (.if_icmp .ge 7, 3) := by decide +kernel
theorem dX12_mayCome_51 : decode cX12_mayCome 51 = .ok (.iconst 1, 1) := by decide +kernel
theorem dX12_mayCome_52 : decode cX12_mayCome 52 = .ok (.goto 4, 3) := by decide +kernel
theorem dX12_mayCome_55 : decode cX12_mayCome 55 = .ok (.iconst 0, 1) := by decide +kernel
theorem dX12_mayCome_56 : decode cX12_mayCome 56 = .ok (.ireturn, 1) := by decide +kernel
theorem dX12_pack_0 : decode cX12_pack 0 = .ok (.aload_n 0, 1) := by decide +kernel
theorem dX12_pack_1 : decode cX12_pack 1 = .ok (.iload_n 1, 1) := by decide +kernel
theorem dX12_pack_2 : decode cX12_pack 2 = .ok (.invokestatic 254, 3) := by decide +kernel
theorem dX12_pack_5 : decode cX12_pack 5 = .ok (.ifCond .eq 47, 3) := by decide +kernel
theorem dX12_pack_8 : decode cX12_pack 8 = .ok (.iload_n 2, 1) := by decide +kernel
theorem dX12_pack_9 : decode cX12_pack 9 = .ok (.invokestatic 254, 3) := by decide +kernel
theorem dX12_pack_12 : decode cX12_pack 12 = .ok (.ifCond .eq 40, 3) := by decide +kernel
theorem dX12_pack_15 : decode cX12_pack 15 = .ok (.iload_n 1, 1) := by decide +kernel
theorem dX12_pack_16 : decode cX12_pack 16 = .ok (.iload_n 2, 1) := by decide +kernel
theorem dX12_pack_17 : decode cX12_pack 17 = .ok (.if_icmp .eq 35, 3) := by decide +kernel
theorem dX12_pack_20 : decode cX12_pack 20 = .ok (.iload_n 3, 1) := by decide +kernel
theorem dX12_pack_21 : decode cX12_pack 21 = .ok (.iconst 1, 1) := by decide +kernel
theorem dX12_pack_22 : decode cX12_pack 22 = .ok (.if_icmp .lt 30, 3) := by decide +kernel
theorem dX12_pack_25 : decode cX12_pack 25 = .ok (.iload_n 3, 1) := by decide +kernel
theorem dX12_pack_26 : decode cX12_pack 26 = .ok (.bipush 48, 2) := by decide +kernel
theorem dX12_pack_28 : decode cX12_pack 28 = .ok (.if_icmp .gt 24, 3) := by decide +kernel
theorem dX12_pack_31 : decode cX12_pack 31 = .ok (.iload 4, 2) := by decide +kernel
theorem dX12_pack_33 : decode cX12_pack 33 = .ok (.iload 5, 2) := by decide +kernel
theorem dX12_pack_35 : decode cX12_pack 35 = .ok (.if_icmp .gt 17, 3) := by decide +kernel
theorem dX12_pack_38 : decode cX12_pack 38 = .ok (.iload 6, 2) := by decide +kernel
theorem dX12_pack_40 : decode cX12_pack 40 = .ok (.iconst 1, 1) := by decide +kernel
theorem dX12_pack_41 : decode cX12_pack 41 = .ok (.if_icmp .lt 11, 3) := by decide +kernel
theorem dX12_pack_44 : decode cX12_pack 44 = .ok (.iload 6, 2) := by decide +kernel
theorem dX12_pack_46 : decode cX12_pack 46 = .ok (.ldc_w 273, 3) := by decide +kernel
theorem dX12_pack_49 : decode cX12_pack 49 = .ok (.if_icmp .le 7, 3) := by decide +kernel
theorem dX12_pack_52 : decode cX12_pack 52 = .ok (.iconst 1, 1) := by decide +kernel
theorem dX12_pack_53 : decode cX12_pack 53 = .ok (.goto 22, 3) := by decide +kernel
theorem dX12_pack_56 : decode cX12_pack 56 = .ok (.aload_n 0, 1) := by decide +kernel
theorem dX12_pack_57 : decode cX12_pack 57 = .ok (.getfield 270, 3) := by decide +kernel
theorem dX12_pack_60 : decode cX12_pack 60 = .ok (.ifCond .eq 10, 3) := by decide +kernel
theorem dX12_pack_63 : decode cX12_pack 63 = .ok (.aload_n 0, 1) := by decide +kernel
theorem dX12_pack_64 : decode cX12_pack 64 = .ok (.getfield 247, 3) := by decide +kernel
theorem dX12_pack_67 : decode cX12_pack 67 = .ok (.ifCond .eq 7, 3) := by decide +kernel
theorem dX12_pack_70 : decode cX12_pack 70 = .ok (.iconst 2, 1) := by decide +kernel
theorem dX12_pack_71 : decode cX12_pack 71 = .ok (.goto 4, 3) := by decide +kernel
theorem dX12_pack_74 : decode cX12_pack 74 = .ok (.iconst 0, 1) := by decide +kernel
theorem dX12_pack_75 : decode cX12_pack 75 = .ok (.putfield 123, 3) := by decide +kernel
theorem dX12_pack_78 : decode cX12_pack 78 = .ok (.aload_n 0, 1) := by decide +kernel
theorem dX12_pack_79 : decode cX12_pack 79 = .ok (.getfield 123, 3) := by decide +kernel
theorem dX12_pack_82 : decode cX12_pack 82 = .ok (.ifCond .le 5, 3) := by decide +kernel
theorem dX12_pack_85 : decode cX12_pack 85 = .ok (.iconst 0, 1) := by decide +kernel
theorem dX12_pack_86 : decode cX12_pack 86 = .ok (.ireturn, 1) := by decide +kernel
theorem dX12_pack_87 : decode cX12_pack 87 = .ok (.aload_n 0, 1) := by decide +kernel
theorem dX12_pack_88 : decode cX12_pack 88 = .ok (.iconst 0, 1) := by decide +kernel
theorem dX12_pack_89 : decode cX12_pack 89 = .ok (.putfield 274, 3) := by decide +kernel
theorem dX12_pack_92 : decode cX12_pack 92 = .ok (.aload_n 0, 1) := by decide +kernel
theorem dX12_pack_93 : decode cX12_pack 93 = .ok (.iconst 0, 1) := by decide +kernel
theorem dX12_pack_94 : decode cX12_pack 94 = .ok (.putfield 277, 3) := by decide +kernel
theorem dX12_pack_97 : decode cX12_pack 97 = .ok (.iconst 0, 1) := by decide +kernel
theorem dX12_pack_98 : decode cX12_pack 98 = .ok (.istore 7, 2) := by decide +kernel
theorem dX12_pack_100 : decode cX12_pack 100 = .ok (.iload 7, 2) := by decide +kernel
theorem dX12_pack_102 : decode cX12_pack 102 = .ok (.bipush 8, 2) := by decide +kernel
theorem dX12_pack_104 : decode cX12_pack 104 = .ok (.if_icmp .ge 17, 3) := by decide +kernel
theorem dX12_pack_107 : decode cX12_pack 107 = .ok (.aload_n 0, 1) := by decide +kernel
theorem dX12_pack_108 : decode cX12_pack 108 = .ok (.getfield 90, 3) := by decide +kernel
theorem dX12_pack_111 : decode cX12_pack 111 = .ok (.iload 7, 2) := by decide +kernel
theorem dX12_pack_113 : decode cX12_pack 113 = .ok (.iconst 0, 1) := by decide +kernel
theorem dX12_pack_114 : decode cX12_pack 114 = .ok (.iastore, 1) := by decide +kernel
theorem dX12_pack_115 : decode cX12_pack 115 = .ok (.iinc 7 1, 3) := by decide +kernel
theorem dX12_pack_118 : decode cX12_pack 118 = .ok (.goto (-18), 3) := by decide +kernel
theorem dX12_pack_121 : decode cX12_pack 121 = .ok (.iconst 0, 1) := by decide +kernel
theorem dX12_pack_122 : decode cX12_pack 122 = .ok (.istore 7, 2) := by decide +kernel
theorem dX12_pack_124 : decode cX12_pack 124 = .ok (.iconst 0, 1) := by decide +kernel
theorem dX12_pack_125 : decode cX12_pack 125 = .ok (.istore 8, 2) := by decide +kernel
theorem dX12_pack_127 : decode cX12_pack 127 = .ok (.iconst 0, 1) := by decide +kernel
theorem dX12_pack_128 : decode cX12_pack 128 = .ok (.istore 9, 2) := by decide +kernel
theorem dX12_pack_130 : decode cX12_pack 130 = .ok (.iload 7, 2) := by decide +kernel
theorem dX12_pack_132 : decode cX12_pack 132 = .ok (.aload_n 0, 1) := by decide +kernel
theorem dX12_pack_133 : decode cX12_pack 133 = .ok (.getfield 270, 3) := by decide +kernel
theorem dX12_pack_136 : decode cX12_pack 136 = .ok (.if_icmp .ne 20, 3) := by decide +kernel
theorem dX12_pack_139 : decode cX12_pack 139 = .ok (.iload 9, 2) := by decide +kernel
theorem dX12_pack_141 : decode cX12_pack 141 = .ok (.iload 4, 2) := by decide +kernel
theorem dX12_pack_143 : decode cX12_pack 143 = .ok (.if_icmp .lt 13, 3) := by decide +kernel
theorem dX12_pack_146 : decode cX12_pack 146 = .ok (.iload 9, 2) := by decide +kernel
theorem dX12_pack_148 : decode cX12_pack 148 = .ok (.iload 5, 2) := by decide +kernel
theorem dX12_pack_150 : decode cX12_pack 150 = .ok (.if_icmp .gt 6, 3) := by decide +kernel
theorem dX12_pack_153 : decode cX12_pack 153 = .ok (.goto 151, 3) := by decide +kernel
theorem dX12_pack_156 : decode cX12_pack 156 = .ok (.iload 7, 2) := by decide +kernel
theorem dX12_pack_158 : decode cX12_pack 158 = .ok (.aload_n 0, 1) := by decide +kernel
theorem dX12_pack_159 : decode cX12_pack 159 = .ok (.getfield 270, 3) := by decide +kernel
theorem dX12_pack_162 : decode cX12_pack 162 = .ok (.if_icmp .ge 90, 3) := by decide +kernel
theorem dX12_pack_165 : decode cX12_pack 165 = .ok (.iload 8, 2) := by decide +kernel
theorem dX12_pack_167 : decode cX12_pack 167 = .ok (.aload_n 0, 1) := by decide +kernel
theorem dX12_pack_168 : decode cX12_pack 168 = .ok (.getfield 181, 3) := by decide +kernel
theorem dX12_pack_171 : decode cX12_pack 171 = .ok (.if_icmp .ge 81, 3) := by decide +kernel
theorem dX12_pack_174 : decode cX12_pack 174 = .ok (.aload_n 0, 1) := by decide +kernel
theorem dX12_pack_175 : decode cX12_pack 175 = .ok (.iload 8, 2) := by decide +kernel
theorem dX12_pack_177 : decode cX12_pack 177 = .ok (.iload_n 1, 1) := by decide +kernel
theorem dX12_pack_178 : decode cX12_pack 178 = .ok (.iload_n 2, 1) := by decide +kernel
theorem dX12_pack_179 : decode cX12_pack 179 = .ok (.iload_n 3, 1) := by decide +kernel
theorem dX12_pack_180 : decode cX12_pack 180 = .ok (.invokevirtual 280, 3) := by decide +kernel
theorem dX12_pack_183 : decode cX12_pack 183 = .ok (.ifCond .eq 63, 3) := by decide +kernel
theorem dX12_pack_186 : decode cX12_pack 186 = .ok (.aload_n 0, 1) := by decide +kernel
theorem dX12_pack_187 : decode cX12_pack 187 = .ok (.getfield 277, 3) := by decide +kernel
theorem dX12_pack_190 : decode cX12_pack 190 = .ok (.iload 6, 2) := by decide +kernel
theorem dX12_pack_192 : decode cX12_pack 192 = .ok (.if_icmp .ne 5, 3) := by decide +kernel
theorem dX12_pack_195 : decode cX12_pack 195 = .ok (.iconst 2, 1) := by decide +kernel
theorem dX12_pack_196 : decode cX12_pack 196 = .ok (.ireturn, 1) := by decide +kernel
theorem dX12_pack_197 : decode cX12_pack 197 = .ok (.aload_n 0, 1) := by decide +kernel
theorem dX12_pack_198 : decode cX12_pack 198 = .ok (.dup, 1) := by decide +kernel
theorem dX12_pack_199 : decode cX12_pack 199 = .ok (.getfield 277, 3) := by decide +kernel
theorem dX12_pack_202 : decode cX12_pack 202 = .ok (.iconst 1, 1) := by decide +kernel
theorem dX12_pack_203 : decode cX12_pack 203 = .ok (.iadd, 1) := by decide +kernel
theorem dX12_pack_204 : decode cX12_pack 204 = .ok (.putfield 277, 3) := by decide +kernel
theorem dX12_pack_207 : decode cX12_pack 207 = .ok (.aload_n 0, 1) := by decide +kernel
theorem dX12_pack_208 : decode cX12_pack 208 = .ok (.getfield 87, 3) := by decide +kernel
theorem dX12_pack_211 : decode cX12_pack 211 = .ok (.iload 7, 2) := by decide +kernel
theorem dX12_pack_213 : decode cX12_pack 213 = .ok (.iload 8, 2) := by decide +kernel
theorem dX12_pack_215 : decode cX12_pack 215 = .ok (.iastore, 1) := by decide +kernel
theorem dX12_pack_216 : decode cX12_pack 216 = .ok (.iinc 7 1, 3) := by decide +kernel
theorem dX12_pack_219 : decode cX12_pack 219 = .ok (.aload_n 0, 1) := by decide +kernel
theorem dX12_pack_220 : decode cX12_pack 220 = .ok (.getfield 90, 3) := by decide +kernel
theorem dX12_pack_223 : decode cX12_pack 223 = .ok (.aload_n 0, 1) := by decide +kernel
theorem dX12_pack_224 : decode cX12_pack 224 = .ok (.getfield 29, 3) := by decide +kernel
theorem dX12_pack_227 : decode cX12_pack 227 = .ok (.iload 8, 2) := by decide +kernel
theorem dX12_pack_229 : decode cX12_pack 229 = .ok (.iaload, 1) := by decide +kernel
theorem dX12_pack_230 : decode cX12_pack 230 = .ok (.dup2, 1) := by decide +kernel
theorem dX12_pack_231 : decode cX12_pack 231 = .ok (.iaload, 1) := by decide +kernel
theorem dX12_pack_232 : decode cX12_pack 232 = .ok (.iconst 1, 1) := by decide +kernel
theorem dX12_pack_233 : decode cX12_pack 233 = .ok (.iadd, 1) := by decide +kernel
theorem dX12_pack_234 : decode cX12_pack 234 = .ok (.iastore, 1) := by decide +kernel
theorem dX12_pack_235 : decode cX12_pack 235 = .ok (.iload 9, 2) := by decide +kernel
theorem dX12_pack_237 : decode cX12_pack 237 = .ok (.aload_n 0, 1) := by decide +kernel
theorem dX12_pack_238 : decode cX12_pack 238 = .ok (.iload 8, 2) := by decide +kernel
theorem dX12_pack_240 : decode cX12_pack 240 = .ok (.invokevirtual 251, 3) := by decide +kernel
theorem dX12_pack_243 : decode cX12_pack 243 = .ok (.iadd, 1) := by decide +kernel
theorem dX12_pack_244 : decode cX12_pack 244 = .ok (.istore 9, 2) := by decide +kernel
theorem dX12_pack_246 : decode cX12_pack 246 = .ok (.iinc 8 1, 3) := by decide +kernel
theorem dX12_pack_249 : decode cX12_pack 249 = .ok (.goto (-119), 3) := by decide +kernel
theorem dX12_pack_252 : decode cX12_pack 252 = .ok (.iload 7, 2) := by decide +kernel
theorem dX12_pack_254 : decode cX12_pack 254 = .ok (.ifCond .ne 5, 3) := by decide +kernel
theorem dX12_pack_257 : decode cX12_pack 257 = .ok (.iconst 1, 1) := by decide +kernel
theorem dX12_pack_258 : decode cX12_pack 258 = .ok (.ireturn, 1) := by decide +kernel
theorem dX12_pack_259 : decode cX12_pack 259 = .ok (.iinc 7 (-1), 3) := by decide +kernel
theorem dX12_pack_262 : decode cX12_pack 262 = .ok (.aload_n 0, 1) := by decide +kernel
theorem dX12_pack_263 : decode cX12_pack 263 = .ok (.getfield 87, 3) := by decide +kernel
theorem dX12_pack_266 : decode cX12_pack 266 = .ok (.iload 7, 2) := by decide +kernel
theorem dX12_pack_268 : decode cX12_pack 268 = .ok (.iaload, 1) := by decide +kernel
theorem dX12_pack_269 : decode cX12_pack 269 = .ok (.istore 8, 2) := by decide +kernel
theorem dX12_pack_271 : decode cX12_pack 271 = .ok (.aload_n 0, 1) := by decide +kernel
theorem dX12_pack_272 : decode cX12_pack 272 = .ok (.getfield 90, 3) := by decide +kernel
theorem dX12_pack_275 : decode cX12_pack 275 = .ok (.aload_n 0, 1) := by decide +kernel
theorem dX12_pack_276 : decode cX12_pack 276 = .ok (.getfield 29, 3) := by decide +kernel
theorem dX12_pack_279 : decode cX12_pack 279 = .ok (.iload 8, 2) := by decide +kernel
theorem dX12_pack_281 : decode cX12_pack 281 = .ok (.iaload, 1) := by decide +kernel
theorem dX12_pack_282 : decode cX12_pack 282 = .ok (.dup2, 1) := by decide +kernel
theorem dX12_pack_283 : decode cX12_pack 283 = .ok (.iaload, 1) := by decide +kernel
theorem dX12_pack_284 : decode cX12_pack 284 = .ok (.iconst 1, 1) := by decide +kernel
theorem dX12_pack_285 : decode cX12_pack 285 = .ok (.isub, 1) := by decide +kernel
theorem dX12_pack_286 : decode cX12_pack 286 = .ok (.iastore, 1) := by decide +kernel
theorem dX12_pack_287 : decode cX12_pack 287 = .ok (.iload 9, 2) := by decide +kernel
theorem dX12_pack_289 : decode cX12_pack 289 = .ok (.aload_n 0, 1) := by decide +kernel
theorem dX12_pack_290 : decode cX12_pack 290 = .ok (.iload 8, 2) := by decide +kernel
theorem dX12_pack_292 : decode cX12_pack 292 = .ok (.invokevirtual 251, 3) := by decide +kernel
theorem dX12_pack_295 : decode cX12_pack 295 = .ok (.isub, 1) := by decide +kernel
theorem dX12_pack_296 : decode cX12_pack 296 = .ok (.istore 9, 2) := by decide +kernel
theorem dX12_pack_298 : decode cX12_pack 298 = .ok (.iinc 8 1, 3) := by decide +kernel
theorem dX12_pack_301 : decode cX12_pack 301 = .ok (.goto (-171), 3) := by decide +kernel
theorem dX12_pack_304 : decode cX12_pack 304 = .ok (.aload_n 0, 1) := by decide +kernel
theorem dX12_pack_305 : decode cX12_pack 305 = .ok (.iload 7, 2) := by decide +kernel
theorem dX12_pack_307 : decode cX12_pack 307 = .ok (.putfield 274, 3) := by decide +kernel
theorem dX12_pack_310 : decode cX12_pack 310 = .ok (.iconst 0, 1) := by decide +kernel
theorem dX12_pack_311 : decode cX12_pack 311 = .ok (.istore 10, 2) := by decide +kernel
theorem dX12_pack_313 : decode cX12_pack 313 = .ok (.iload 10, 2) := by decide +kernel
theorem dX12_pack_315 : decode cX12_pack 315 = .ok (.iload 7, 2) := by decide +kernel
theorem dX12_pack_317 : decode cX12_pack 317 = .ok (.if_icmp .ge 23, 3) := by decide +kernel
theorem dX12_pack_320 : decode cX12_pack 320 = .ok (.aload_n 0, 1) := by decide +kernel
theorem dX12_pack_321 : decode cX12_pack 321 = .ok (.getfield 84, 3) := by decide +kernel
theorem dX12_pack_324 : decode cX12_pack 324 = .ok (.iload 10, 2) := by decide +kernel
theorem dX12_pack_326 : decode cX12_pack 326 = .ok (.aload_n 0, 1) := by decide +kernel
theorem dX12_pack_327 : decode cX12_pack 327 = .ok (.getfield 87, 3) := by decide +kernel
theorem dX12_pack_330 : decode cX12_pack 330 = .ok (.iload 10, 2) := by decide +kernel
theorem dX12_pack_332 : decode cX12_pack 332 = .ok (.iaload, 1) := by decide +kernel
theorem dX12_pack_333 : decode cX12_pack 333 = .ok (.iastore, 1) := by decide +kernel
theorem dX12_pack_334 : decode cX12_pack 334 = .ok (.iinc 10 1, 3) := by decide +kernel
theorem dX12_pack_337 : decode cX12_pack 337 = .ok (.goto (-24), 3) := by decide +kernel
theorem dX12_pack_340 : decode cX12_pack 340 = .ok (.aload_n 0, 1) := by decide +kernel
theorem dX12_pack_341 : decode cX12_pack 341 = .ok (.iload_n 1, 1) := by decide +kernel
theorem dX12_pack_342 : decode cX12_pack 342 = .ok (.putfield 284, 3) := by decide +kernel
theorem dX12_pack_345 : decode cX12_pack 345 = .ok (.aload_n 0, 1) := by decide +kernel
theorem dX12_pack_346 : decode cX12_pack 346 = .ok (.iload_n 2, 1) := by decide +kernel
theorem dX12_pack_347 : decode cX12_pack 347 = .ok (.putfield 287, 3) := by decide +kernel
theorem dX12_pack_350 : decode cX12_pack 350 = .ok (.iconst 0, 1) := by decide +kernel
theorem dX12_pack_351 : decode cX12_pack 351 = .ok (.ireturn, 1) := by decide +kernel
theorem dX12_packed_0 : decode cX12_packed 0 = .ok (.aload_n 0, 1) := by decide +kernel
theorem dX12_packed_1 : decode cX12_packed 1 = .ok (.iconst 0, 1) := by decide +kernel
theorem dX12_packed_2 : decode cX12_packed 2 = .ok (.putfield 123, 3) := by decide +kernel
theorem dX12_packed_5 : decode cX12_packed 5 = .ok (.iload_n 1, 1) := by decide +kernel
theorem dX12_packed_6 : decode cX12_packed 6 = .ok (.ifCond .lt 11, 3) := by decide +kernel
theorem dX12_packed_9 : decode cX12_packed 9 = .ok (.iload_n 1, 1) := by decide +kernel
theorem dX12_packed_10 : decode cX12_packed 10 = .ok (.aload_n 0, 1) := by decide +kernel
theorem dX12_packed_11 : decode cX12_packed 11 = .ok (.getfield 274, 3) := by decide +kernel
theorem dX12_packed_14 : decode cX12_packed 14 = .ok (.if_icmp .lt 7, 3) := by decide +kernel
theorem dX12_packed_17 : decode cX12_packed 17 = .ok (.iconst (-1), 1) := by decide +kernel
theorem dX12_packed_18 : decode cX12_packed 18 = .ok (.goto 9, 3) := by decide +kernel
theorem dX12_packed_21 : decode cX12_packed 21 = .ok (.aload_n 0, 1) := by decide +kernel
theorem dX12_packed_22 : decode cX12_packed 22 = .ok (.getfield 84, 3) := by decide +kernel
theorem dX12_packed_25 : decode cX12_packed 25 = .ok (.iload_n 1, 1) := by decide +kernel
theorem dX12_packed_26 : decode cX12_packed 26 = .ok (.iaload, 1) := by decide +kernel
theorem dX12_packed_27 : decode cX12_packed 27 = .ok (.ireturn, 1) := by decide +kernel
theorem dX12_begin_0 : decode cX12_begin 0 = .ok (.aload_n 0, 1) := by decide +kernel
theorem dX12_begin_1 : decode cX12_begin 1 = .ok (.iconst 0, 1) := by decide +kernel
theorem dX12_begin_2 : decode cX12_begin 2 = .ok (.putfield 123, 3) := by decide +kernel
theorem dX12_begin_5 : decode cX12_begin 5 = .ok (.aload_n 0, 1) := by decide +kernel
theorem dX12_begin_6 : decode cX12_begin 6 = .ok (.getfield 274, 3) := by decide +kernel
theorem dX12_begin_9 : decode cX12_begin 9 = .ok (.ifCond .eq 21, 3) := by decide +kernel
theorem dX12_begin_12 : decode cX12_begin 12 = .ok (.aload_n 0, 1) := by decide +kernel
theorem dX12_begin_13 : decode cX12_begin 13 = .ok (.getfield 247, 3) := by decide +kernel
theorem dX12_begin_16 : decode cX12_begin 16 = .ok (.ifCond .ne 14, 3) := by decide +kernel
theorem dX12_begin_19 : decode cX12_begin 19 = .ok (.aload_n 0, 1) := by decide +kernel
theorem dX12_begin_20 : decode cX12_begin 20 = .ok (.getfield 270, 3) := by decide +kernel
theorem dX12_begin_23 : decode cX12_begin 23 = .ok (.aload_n 0, 1) := by decide +kernel
theorem dX12_begin_24 : decode cX12_begin 24 = .ok (.getfield 274, 3) := by decide +kernel
theorem dX12_begin_27 : decode cX12_begin 27 = .ok (.if_icmp .eq 5, 3) := by decide +kernel
theorem dX12_begin_30 : decode cX12_begin 30 = .ok (.iconst 0, 1) := by decide +kernel
theorem dX12_begin_31 : decode cX12_begin 31 = .ok (.ireturn, 1) := by decide +kernel
theorem dX12_begin_32 : decode cX12_begin 32 = .ok (.iconst 0, 1) := by decide +kernel
theorem dX12_begin_33 : decode cX12_begin 33 = .ok (.istore_n 1, 1) := by decide +kernel
theorem dX12_begin_34 : decode cX12_begin 34 = .ok (.iload_n 1, 1) := by decide +kernel
theorem dX12_begin_35 : decode cX12_begin 35 = .ok (.aload_n 0, 1) := by decide +kernel
theorem dX12_begin_36 : decode cX12_begin 36 = .ok (.getfield 274, 3) := by decide +kernel
theorem dX12_begin_39 : decode cX12_begin 39 = .ok (.if_icmp .ge 69, 3) := by decide +kernel
theorem dX12_begin_42 : decode cX12_begin 42 = .ok (.aload_n 0, 1) := by decide +kernel
theorem dX12_begin_43 : decode cX12_begin 43 = .ok (.getfield 41, 3) := by decide +kernel
theorem dX12_begin_46 : decode cX12_begin 46 = .ok (.aload_n 0, 1) := by decide +kernel
theorem dX12_begin_47 : decode cX12_begin 47 = .ok (.getfield 84, 3) := by decide +kernel
theorem dX12_begin_50 : decode cX12_begin 50 = .ok (.iload_n 1, 1) := by decide +kernel
theorem dX12_begin_51 : decode cX12_begin 51 = .ok (.iaload, 1) := by decide +kernel
theorem dX12_begin_52 : decode cX12_begin 52 = .ok (.baload, 1) := by decide +kernel
theorem dX12_begin_53 : decode cX12_begin 53 = .ok (.ifCond .ne 47, 3) := by decide +kernel
theorem dX12_begin_56 : decode cX12_begin 56 = .ok (.aload_n 0, 1) := by decide +kernel
theorem dX12_begin_57 : decode cX12_begin 57 = .ok (.getfield 38, 3) := by decide +kernel
theorem dX12_begin_60 : decode cX12_begin 60 = .ok (.aload_n 0, 1) := by decide +kernel
theorem dX12_begin_61 : decode cX12_begin 61 = .ok (.getfield 84, 3) := by decide +kernel
theorem dX12_begin_64 : decode cX12_begin 64 = .ok (.iload_n 1, 1) := by decide +kernel
theorem dX12_begin_65 : decode cX12_begin 65 = .ok (.iaload, 1) := by decide +kernel
theorem dX12_begin_66 : decode cX12_begin 66 = .ok (.iaload, 1) := by decide +kernel
theorem dX12_begin_67 : decode cX12_begin 67 = .ok (.aload_n 0, 1) := by decide +kernel
theorem dX12_begin_68 : decode cX12_begin 68 = .ok (.getfield 284, 3) := by decide +kernel
theorem dX12_begin_71 : decode cX12_begin 71 = .ok (.ishr, 1) := by decide +kernel
theorem dX12_begin_72 : decode cX12_begin 72 = .ok (.iconst 1, 1) := by decide +kernel
theorem dX12_begin_73 : decode cX12_begin 73 = .ok (.iand, 1) := by decide +kernel
theorem dX12_begin_74 : decode cX12_begin 74 = .ok (.iconst 1, 1) := by decide +kernel
theorem dX12_begin_75 : decode cX12_begin 75 = .ok (.if_icmp .eq 25, 3) := by decide +kernel
theorem dX12_begin_78 : decode cX12_begin 78 = .ok (.aload_n 0, 1) := by decide +kernel
theorem dX12_begin_79 : decode cX12_begin 79 = .ok (.getfield 38, 3) := by decide +kernel
theorem dX12_begin_82 : decode cX12_begin 82 = .ok (.aload_n 0, 1) := by decide +kernel
theorem dX12_begin_83 : decode cX12_begin 83 = .ok (.getfield 84, 3) := by decide +kernel
theorem dX12_begin_86 : decode cX12_begin 86 = .ok (.iload_n 1, 1) := by decide +kernel
theorem dX12_begin_87 : decode cX12_begin 87 = .ok (.iaload, 1) := by decide +kernel
theorem dX12_begin_88 : decode cX12_begin 88 = .ok (.iaload, 1) := by decide +kernel
theorem dX12_begin_89 : decode cX12_begin 89 = .ok (.aload_n 0, 1) := by decide +kernel
theorem dX12_begin_90 : decode cX12_begin 90 = .ok (.getfield 287, 3) := by decide +kernel
theorem dX12_begin_93 : decode cX12_begin 93 = .ok (.ishr, 1) := by decide +kernel
theorem dX12_begin_94 : decode cX12_begin 94 = .ok (.iconst 1, 1) := by decide +kernel
theorem dX12_begin_95 : decode cX12_begin 95 = .ok (.iand, 1) := by decide +kernel
theorem dX12_begin_96 : decode cX12_begin 96 = .ok (.iconst 1, 1) := by decide +kernel
theorem dX12_begin_97 : decode cX12_begin 97 = .ok (.if_icmp .ne 5, 3) := by decide +kernel
theorem dX12_begin_100 : decode cX12_begin 100 = .ok (.iconst 0, 1) := by decide +kernel
theorem dX12_begin_101 : decode cX12_begin 101 = .ok (.ireturn, 1) := by decide +kernel
theorem dX12_begin_102 : decode cX12_begin 102 = .ok (.iinc 1 1, 3) := by decide +kernel
theorem dX12_begin_105 : decode cX12_begin 105 = .ok (.goto (-71), 3) := by decide +kernel
theorem dX12_begin_108 : decode cX12_begin 108 = .ok (.aload_n 0, 1) := by decide +kernel
theorem dX12_begin_109 : decode cX12_begin 109 = .ok (.iconst 1, 1) := by decide +kernel
theorem dX12_begin_110 : decode cX12_begin 110 = .ok (.putfield 247, 3) := by decide +kernel
theorem dX12_begin_113 : decode cX12_begin 113 = .ok (.aload_n 0, 1) := by decide +kernel
theorem dX12_begin_114 : decode cX12_begin 114 = .ok (.iconst 0, 1) := by decide +kernel
theorem dX12_begin_115 : decode cX12_begin 115 = .ok (.putfield 290, 3) := by decide +kernel
theorem dX12_begin_118 : decode cX12_begin 118 = .ok (.aload_n 0, 1) := by decide +kernel
theorem dX12_begin_119 : decode cX12_begin 119 = .ok (.invokevirtual 293, 3) := by decide +kernel
theorem dX12_begin_122 : decode cX12_begin 122 = .ok (.iconst 1, 1) := by decide +kernel
theorem dX12_begin_123 : decode cX12_begin 123 = .ok (.ireturn, 1) := by decide +kernel
theorem dX12_roundOf_0 : decode cX12_roundOf 0 = .ok (.iconst 0, 1) := by decide +kernel
theorem dX12_roundOf_1 : decode cX12_roundOf 1 = .ok (.istore_n 2, 1) := by decide +kernel
theorem dX12_roundOf_2 : decode cX12_roundOf 2 = .ok (.iload_n 1, 1) := by decide +kernel
theorem dX12_roundOf_3 : decode cX12_roundOf 3 = .ok (.istore_n 3, 1) := by decide +kernel
theorem dX12_roundOf_4 : decode cX12_roundOf 4 = .ok (.iload_n 3, 1) := by decide +kernel
theorem dX12_roundOf_5 : decode cX12_roundOf 5 = .ok (.aload_n 0, 1) := by decide +kernel
theorem dX12_roundOf_6 : decode cX12_roundOf 6 = .ok (.getfield 54, 3) := by decide +kernel
theorem dX12_roundOf_9 : decode cX12_roundOf 9 = .ok (.iload_n 2, 1) := by decide +kernel
theorem dX12_roundOf_10 : decode cX12_roundOf 10 = .ok (.iaload, 1) := by decide +kernel
theorem dX12_roundOf_11 : decode cX12_roundOf 11 = .ok (.if_icmp .lt 18, 3) := by decide +kernel
theorem dX12_roundOf_14 : decode cX12_roundOf 14 = .ok (.iload_n 3, 1) := by decide +kernel
theorem dX12_roundOf_15 : decode cX12_roundOf 15 = .ok (.aload_n 0, 1) := by decide +kernel
theorem dX12_roundOf_16 : decode cX12_roundOf 16 = .ok (.getfield 54, 3) := by decide +kernel
theorem dX12_roundOf_19 : decode cX12_roundOf 19 = .ok (.iload_n 2, 1) := by decide +kernel
theorem dX12_roundOf_20 : decode cX12_roundOf 20 = .ok (.iaload, 1) := by decide +kernel
theorem dX12_roundOf_21 : decode cX12_roundOf 21 = .ok (.isub, 1) := by decide +kernel
theorem dX12_roundOf_22 : decode cX12_roundOf 22 = .ok (.istore_n 3, 1) := by decide +kernel
theorem dX12_roundOf_23 : decode cX12_roundOf 23 = .ok (.iinc 2 1, 3) := by decide +kernel
theorem dX12_roundOf_26 : decode cX12_roundOf 26 = .ok (.goto (-22), 3) := by decide +kernel
theorem dX12_roundOf_29 : decode cX12_roundOf 29 = .ok (.iload_n 2, 1) := by decide +kernel
theorem dX12_roundOf_30 : decode cX12_roundOf 30 = .ok (.ireturn, 1) := by decide +kernel
theorem dX12_hands_0 : decode cX12_hands 0 = .ok (.aload_n 0, 1) := by decide +kernel
theorem dX12_hands_1 : decode cX12_hands 1 = .ok (.iload_n 1, 1) := by decide +kernel
theorem dX12_hands_2 : decode cX12_hands 2 = .ok (.putfield 296, 3) := by decide +kernel
theorem dX12_hands_5 : decode cX12_hands 5 = .ok (.aload_n 0, 1) := by decide +kernel
theorem dX12_hands_6 : decode cX12_hands 6 = .ok (.iconst 0, 1) := by decide +kernel
theorem dX12_hands_7 : decode cX12_hands 7 = .ok (.putfield 299, 3) := by decide +kernel
theorem dX12_hands_10 : decode cX12_hands 10 = .ok (.aload_n 0, 1) := by decide +kernel
theorem dX12_hands_11 : decode cX12_hands 11 = .ok (.iload_n 1, 1) := by decide +kernel
theorem dX12_hands_12 : decode cX12_hands 12 = .ok (.aload_n 0, 1) := by decide +kernel
theorem dX12_hands_13 : decode cX12_hands 13 = .ok (.getfield 274, 3) := by decide +kernel
theorem dX12_hands_16 : decode cX12_hands 16 = .ok (.if_icmp .lt 7, 3) := by decide +kernel
theorem dX12_hands_19 : decode cX12_hands 19 = .ok (.iconst 3, 1) := by decide +kernel
theorem dX12_hands_20 : decode cX12_hands 20 = .ok (.goto 23, 3) := by decide +kernel
theorem dX12_hands_23 : decode cX12_hands 23 = .ok (.aload_n 0, 1) := by decide +kernel
theorem dX12_hands_24 : decode cX12_hands 24 = .ok (.getfield 66, 3) := by decide +kernel
theorem dX12_hands_27 : decode cX12_hands 27 = .ok (.aload_n 0, 1) := by decide +kernel
theorem dX12_hands_28 : decode cX12_hands 28 = .ok (.iload_n 1, 1) := by decide +kernel
theorem dX12_hands_29 : decode cX12_hands 29 = .ok (.invokevirtual 302, 3) := by decide +kernel
theorem dX12_hands_32 : decode cX12_hands 32 = .ok (.baload, 1) := by decide +kernel
theorem dX12_hands_33 : decode cX12_hands 33 = .ok (.ifCond .eq 7, 3) := by decide +kernel
theorem dX12_hands_36 : decode cX12_hands 36 = .ok (.iconst 2, 1) := by decide +kernel
theorem dX12_hands_37 : decode cX12_hands 37 = .ok (.goto 6, 3) := by decide +kernel
theorem dX12_hands_40 : decode cX12_hands 40 = .ok (.iload_n 1, 1) := by decide +kernel
theorem dX12_hands_41 : decode cX12_hands 41 = .ok (.iconst 2, 1) := by decide +kernel
theorem dX12_hands_42 : decode cX12_hands 42 = .ok (.irem, 1) := by decide +kernel
theorem dX12_hands_43 : decode cX12_hands 43 = .ok (.putfield 305, 3) := by decide +kernel
theorem dX12_hands_46 : decode cX12_hands 46 = .ok (.return_, 1) := by decide +kernel
theorem dX12_through_0 : decode cX12_through 0 = .ok (.aload_n 0, 1) := by decide +kernel
theorem dX12_through_1 : decode cX12_through 1 = .ok (.iconst 0, 1) := by decide +kernel
theorem dX12_through_2 : decode cX12_through 2 = .ok (.invokevirtual 308, 3) := by decide +kernel
theorem dX12_through_5 : decode cX12_through 5 = .ok (.aload_n 0, 1) := by decide +kernel
theorem dX12_through_6 : decode cX12_through 6 = .ok (.iconst 0, 1) := by decide +kernel
theorem dX12_through_7 : decode cX12_through 7 = .ok (.putfield 311, 3) := by decide +kernel
theorem dX12_through_10 : decode cX12_through 10 = .ok (.aload_n 0, 1) := by decide +kernel
theorem dX12_through_11 : decode cX12_through 11 = .ok (.iconst 0, 1) := by decide +kernel
theorem dX12_through_12 : decode cX12_through 12 = .ok (.putfield 314, 3) := by decide +kernel
theorem dX12_through_15 : decode cX12_through 15 = .ok (.aload_n 0, 1) := by decide +kernel
theorem dX12_through_16 : decode cX12_through 16 = .ok (.iconst 0, 1) := by decide +kernel
theorem dX12_through_17 : decode cX12_through 17 = .ok (.putfield 317, 3) := by decide +kernel
theorem dX12_through_20 : decode cX12_through 20 = .ok (.iconst 0, 1) := by decide +kernel
theorem dX12_through_21 : decode cX12_through 21 = .ok (.istore_n 1, 1) := by decide +kernel
theorem dX12_through_22 : decode cX12_through 22 = .ok (.iload_n 1, 1) := by decide +kernel
theorem dX12_through_23 : decode cX12_through 23 = .ok (.aload_n 0, 1) := by decide +kernel
theorem dX12_through_24 : decode cX12_through 24 = .ok (.getfield 290, 3) := by decide +kernel
theorem dX12_through_27 : decode cX12_through 27 = .ok (.if_icmp .ge 129, 3) := by decide +kernel
theorem dX12_through_30 : decode cX12_through 30 = .ok (.aload_n 0, 1) := by decide +kernel
theorem dX12_through_31 : decode cX12_through 31 = .ok (.getfield 102, 3) := by decide +kernel
theorem dX12_through_34 : decode cX12_through 34 = .ok (.iload_n 1, 1) := by decide +kernel
theorem dX12_through_35 : decode cX12_through 35 = .ok (.iconst 0, 1) := by decide +kernel
theorem dX12_through_36 : decode cX12_through 36 = .ok (.iastore, 1) := by decide +kernel
theorem dX12_through_37 : decode cX12_through 37 = .ok (.aload_n 0, 1) := by decide +kernel
theorem dX12_through_38 : decode cX12_through 38 = .ok (.getfield 93, 3) := by decide +kernel
theorem dX12_through_41 : decode cX12_through 41 = .ok (.iload_n 1, 1) := by decide +kernel
theorem dX12_through_42 : decode cX12_through 42 = .ok (.iaload, 1) := by decide +kernel
theorem dX12_through_43 : decode cX12_through 43 = .ok (.aload_n 0, 1) := by decide +kernel
theorem dX12_through_44 : decode cX12_through 44 = .ok (.getfield 296, 3) := by decide +kernel
theorem dX12_through_47 : decode cX12_through 47 = .ok (.if_icmp .le 13, 3) := by decide +kernel
theorem dX12_through_50 : decode cX12_through 50 = .ok (.aload_n 0, 1) := by decide +kernel
theorem dX12_through_51 : decode cX12_through 51 = .ok (.aload_n 0, 1) := by decide +kernel
theorem dX12_through_52 : decode cX12_through 52 = .ok (.getfield 93, 3) := by decide +kernel
theorem dX12_through_55 : decode cX12_through 55 = .ok (.iload_n 1, 1) := by decide +kernel
theorem dX12_through_56 : decode cX12_through 56 = .ok (.iaload, 1) := by decide +kernel
theorem dX12_through_57 : decode cX12_through 57 = .ok (.invokevirtual 308, 3) := by decide +kernel
theorem dX12_through_60 : decode cX12_through 60 = .ok (.aload_n 0, 1) := by decide +kernel
theorem dX12_through_61 : decode cX12_through 61 = .ok (.getfield 108, 3) := by decide +kernel
theorem dX12_through_64 : decode cX12_through 64 = .ok (.iload_n 1, 1) := by decide +kernel
theorem dX12_through_65 : decode cX12_through 65 = .ok (.aload_n 0, 1) := by decide +kernel
theorem dX12_through_66 : decode cX12_through 66 = .ok (.getfield 93, 3) := by decide +kernel
theorem dX12_through_69 : decode cX12_through 69 = .ok (.iload_n 1, 1) := by decide +kernel
theorem dX12_through_70 : decode cX12_through 70 = .ok (.iaload, 1) := by decide +kernel
theorem dX12_through_71 : decode cX12_through 71 = .ok (.aload_n 0, 1) := by decide +kernel
theorem dX12_through_72 : decode cX12_through 72 = .ok (.getfield 296, 3) := by decide +kernel
theorem dX12_through_75 : decode cX12_through 75 = .ok (.if_icmp .lt 34, 3) := by decide +kernel
theorem dX12_through_78 : decode cX12_through 78 = .ok (.aload_n 0, 1) := by decide +kernel
theorem dX12_through_79 : decode cX12_through 79 = .ok (.getfield 96, 3) := by decide +kernel
theorem dX12_through_82 : decode cX12_through 82 = .ok (.iload_n 1, 1) := by decide +kernel
theorem dX12_through_83 : decode cX12_through 83 = .ok (.iaload, 1) := by decide +kernel
theorem dX12_through_84 : decode cX12_through 84 = .ok (.iconst 2, 1) := by decide +kernel
theorem dX12_through_85 : decode cX12_through 85 = .ok (.if_icmp .ge 28, 3) := by decide +kernel
theorem dX12_through_88 : decode cX12_through 88 = .ok (.aload_n 0, 1) := by decide +kernel
theorem dX12_through_89 : decode cX12_through 89 = .ok (.getfield 305, 3) := by decide +kernel
theorem dX12_through_92 : decode cX12_through 92 = .ok (.iconst 2, 1) := by decide +kernel
theorem dX12_through_93 : decode cX12_through 93 = .ok (.if_icmp .eq 20, 3) := by decide +kernel
theorem dX12_through_96 : decode cX12_through 96 = .ok (.aload_n 0, 1) := by decide +kernel
theorem dX12_through_97 : decode cX12_through 97 = .ok (.getfield 305, 3) := by decide +kernel
theorem dX12_through_100 : decode cX12_through 100 = .ok (.aload_n 0, 1) := by decide +kernel
theorem dX12_through_101 : decode cX12_through 101 = .ok (.getfield 99, 3) := by decide +kernel
theorem dX12_through_104 : decode cX12_through 104 = .ok (.iload_n 1, 1) := by decide +kernel
theorem dX12_through_105 : decode cX12_through 105 = .ok (.iaload, 1) := by decide +kernel
theorem dX12_through_106 : decode cX12_through 106 = .ok (.if_icmp .eq 7, 3) := by decide +kernel
theorem dX12_through_109 : decode cX12_through 109 = .ok (.iconst 1, 1) := by decide +kernel
theorem dX12_through_110 : decode cX12_through 110 = .ok (.goto 4, 3) := by decide +kernel
theorem dX12_through_113 : decode cX12_through 113 = .ok (.iconst 0, 1) := by decide +kernel
theorem dX12_through_114 : decode cX12_through 114 = .ok (.bastore, 1) := by decide +kernel
theorem dX12_through_115 : decode cX12_through 115 = .ok (.aload_n 0, 1) := by decide +kernel
theorem dX12_through_116 : decode cX12_through 116 = .ok (.getfield 108, 3) := by decide +kernel
theorem dX12_through_119 : decode cX12_through 119 = .ok (.iload_n 1, 1) := by decide +kernel
theorem dX12_through_120 : decode cX12_through 120 = .ok (.baload, 1) := by decide +kernel
theorem dX12_through_121 : decode cX12_through 121 = .ok (.ifCond .eq 16, 3) := by decide +kernel
theorem dX12_through_124 : decode cX12_through 124 = .ok (.aload_n 0, 1) := by decide +kernel
theorem dX12_through_125 : decode cX12_through 125 = .ok (.dup, 1) := by decide +kernel
theorem dX12_through_126 : decode cX12_through 126 = .ok (.getfield 317, 3) := by decide +kernel
theorem dX12_through_129 : decode cX12_through 129 = .ok (.iconst 1, 1) := by decide +kernel
theorem dX12_through_130 : decode cX12_through 130 = .ok (.iadd, 1) := by decide +kernel
theorem dX12_through_131 : decode cX12_through 131 = .ok (.putfield 317, 3) := by decide +kernel
theorem dX12_through_134 : decode cX12_through 134 = .ok (.goto 16, 3) := by decide +kernel
theorem dX12_through_137 : decode cX12_through 137 = .ok (.aload_n 0, 1) := by decide +kernel
theorem dX12_through_138 : decode cX12_through 138 = .ok (.iload_n 1, 1) := by decide +kernel
theorem dX12_through_139 : decode cX12_through 139 = .ok (.aload_n 0, 1) := by decide +kernel
theorem dX12_through_140 : decode cX12_through 140 = .ok (.aload_n 0, 1) := by decide +kernel
theorem dX12_through_141 : decode cX12_through 141 = .ok (.getfield 296, 3) := by decide +kernel
theorem dX12_through_144 : decode cX12_through 144 = .ok (.invokevirtual 302, 3) := by decide +kernel
theorem dX12_through_147 : decode cX12_through 147 = .ok (.invokevirtual 320, 3) := by decide +kernel
theorem dX12_through_150 : decode cX12_through 150 = .ok (.iinc 1 1, 3) := by decide +kernel
theorem dX12_through_153 : decode cX12_through 153 = .ok (.goto (-131), 3) := by decide +kernel
theorem dX12_through_156 : decode cX12_through 156 = .ok (.return_, 1) := by decide +kernel
theorem dX12_happens_0 : decode cX12_happens 0 = .ok (.aload_n 0, 1) := by decide +kernel
theorem dX12_happens_1 : decode cX12_happens 1 = .ok (.getfield 96, 3) := by decide +kernel
theorem dX12_happens_4 : decode cX12_happens 4 = .ok (.iload_n 1, 1) := by decide +kernel
theorem dX12_happens_5 : decode cX12_happens 5 = .ok (.iaload, 1) := by decide +kernel
theorem dX12_happens_6 : decode cX12_happens 6 = .ok (.iconst 2, 1) := by decide +kernel
theorem dX12_happens_7 : decode cX12_happens 7 = .ok (.if_icmp .ne 14, 3) := by decide +kernel
theorem dX12_happens_10 : decode cX12_happens 10 = .ok (.aload_n 0, 1) := by decide +kernel
theorem dX12_happens_11 : decode cX12_happens 11 = .ok (.aload_n 0, 1) := by decide +kernel
theorem dX12_happens_12 : decode cX12_happens 12 = .ok (.getfield 296, 3) := by decide +kernel
theorem dX12_happens_15 : decode cX12_happens 15 = .ok (.iconst 1, 1) := by decide +kernel
theorem dX12_happens_16 : decode cX12_happens 16 = .ok (.iadd, 1) := by decide +kernel
theorem dX12_happens_17 : decode cX12_happens 17 = .ok (.invokevirtual 308, 3) := by decide +kernel
theorem dX12_happens_20 : decode cX12_happens 20 = .ok (.return_, 1) := by decide +kernel
theorem dX12_happens_21 : decode cX12_happens 21 = .ok (.aload_n 0, 1) := by decide +kernel
theorem dX12_happens_22 : decode cX12_happens 22 = .ok (.getfield 96, 3) := by decide +kernel
theorem dX12_happens_25 : decode cX12_happens 25 = .ok (.iload_n 1, 1) := by decide +kernel
theorem dX12_happens_26 : decode cX12_happens 26 = .ok (.iaload, 1) := by decide +kernel
theorem dX12_happens_27 : decode cX12_happens 27 = .ok (.ifCond .ne 16, 3) := by decide +kernel
theorem dX12_happens_30 : decode cX12_happens 30 = .ok (.aload_n 0, 1) := by decide +kernel
theorem dX12_happens_31 : decode cX12_happens 31 = .ok (.getfield 105, 3) := by decide +kernel
theorem dX12_happens_34 : decode cX12_happens 34 = .ok (.iload_n 1, 1) := by decide +kernel
theorem dX12_happens_35 : decode cX12_happens 35 = .ok (.baload, 1) := by decide +kernel
theorem dX12_happens_36 : decode cX12_happens 36 = .ok (.ifCond .eq 7, 3) := by decide +kernel
theorem dX12_happens_39 : decode cX12_happens 39 = .ok (.iconst 1, 1) := by decide +kernel
theorem dX12_happens_40 : decode cX12_happens 40 = .ok (.goto 4, 3) := by decide +kernel
theorem dX12_happens_43 : decode cX12_happens 43 = .ok (.iconst 0, 1) := by decide +kernel
theorem dX12_happens_44 : decode cX12_happens 44 = .ok (.istore_n 3, 1) := by decide +kernel
theorem dX12_happens_45 : decode cX12_happens 45 = .ok (.aload_n 0, 1) := by decide +kernel
theorem dX12_happens_46 : decode cX12_happens 46 = .ok (.getfield 96, 3) := by decide +kernel
theorem dX12_happens_49 : decode cX12_happens 49 = .ok (.iload_n 1, 1) := by decide +kernel
theorem dX12_happens_50 : decode cX12_happens 50 = .ok (.iaload, 1) := by decide +kernel
theorem dX12_happens_51 : decode cX12_happens 51 = .ok (.ifCond .ne 32, 3) := by decide +kernel
theorem dX12_happens_54 : decode cX12_happens 54 = .ok (.aload_n 0, 1) := by decide +kernel
theorem dX12_happens_55 : decode cX12_happens 55 = .ok (.getfield 105, 3) := by decide +kernel
theorem dX12_happens_58 : decode cX12_happens 58 = .ok (.iload_n 1, 1) := by decide +kernel
theorem dX12_happens_59 : decode cX12_happens 59 = .ok (.baload, 1) := by decide +kernel
theorem dX12_happens_60 : decode cX12_happens 60 = .ok (.ifCond .ne 23, 3) := by decide +kernel
theorem dX12_happens_63 : decode cX12_happens 63 = .ok (.aload_n 0, 1) := by decide +kernel
theorem dX12_happens_64 : decode cX12_happens 64 = .ok (.getfield 66, 3) := by decide +kernel
theorem dX12_happens_67 : decode cX12_happens 67 = .ok (.iload_n 2, 1) := by decide +kernel
theorem dX12_happens_68 : decode cX12_happens 68 = .ok (.baload, 1) := by decide +kernel
theorem dX12_happens_69 : decode cX12_happens 69 = .ok (.ifCond .ne 10, 3) := by decide +kernel
theorem dX12_happens_72 : decode cX12_happens 72 = .ok (.aload_n 0, 1) := by decide +kernel
theorem dX12_happens_73 : decode cX12_happens 73 = .ok (.getfield 299, 3) := by decide +kernel
theorem dX12_happens_76 : decode cX12_happens 76 = .ok (.ifCond .ne 7, 3) := by decide +kernel
theorem dX12_happens_79 : decode cX12_happens 79 = .ok (.iconst 1, 1) := by decide +kernel
theorem dX12_happens_80 : decode cX12_happens 80 = .ok (.goto 4, 3) := by decide +kernel
theorem dX12_happens_83 : decode cX12_happens 83 = .ok (.iconst 0, 1) := by decide +kernel
theorem dX12_happens_84 : decode cX12_happens 84 = .ok (.istore 4, 2) := by decide +kernel
theorem dX12_happens_86 : decode cX12_happens 86 = .ok (.aload_n 0, 1) := by decide +kernel
theorem dX12_happens_87 : decode cX12_happens 87 = .ok (.getfield 102, 3) := by decide +kernel
theorem dX12_happens_90 : decode cX12_happens 90 = .ok (.iload_n 1, 1) := by decide +kernel
theorem dX12_happens_91 : decode cX12_happens 91 = .ok (.iload_n 3, 1) := by decide +kernel
theorem dX12_happens_92 : decode cX12_happens 92 = .ok (.ifCond .eq 37, 3) := by decide +kernel
theorem dX12_happens_95 : decode cX12_happens 95 = .ok (.aload_n 0, 1) := by decide +kernel
theorem dX12_happens_96 : decode cX12_happens 96 = .ok (.getfield 66, 3) := by decide +kernel
theorem dX12_happens_99 : decode cX12_happens 99 = .ok (.iload_n 2, 1) := by decide +kernel
theorem dX12_happens_100 : decode cX12_happens 100 = .ok (.baload, 1) := by decide +kernel
theorem dX12_happens_101 : decode cX12_happens 101 = .ok (.ifCond .ne 10, 3) := by decide +kernel
theorem dX12_happens_104 : decode cX12_happens 104 = .ok (.aload_n 0, 1) := by decide +kernel
theorem dX12_happens_105 : decode cX12_happens 105 = .ok (.getfield 299, 3) := by decide +kernel
theorem dX12_happens_108 : decode cX12_happens 108 = .ok (.ifCond .ne 12, 3) := by decide +kernel
theorem dX12_happens_111 : decode cX12_happens 111 = .ok (.aload_n 0, 1) := by decide +kernel
theorem dX12_happens_112 : decode cX12_happens 112 = .ok (.getfield 57, 3) := by decide +kernel
theorem dX12_happens_115 : decode cX12_happens 115 = .ok (.iload_n 2, 1) := by decide +kernel
theorem dX12_happens_116 : decode cX12_happens 116 = .ok (.iaload, 1) := by decide +kernel
theorem dX12_happens_117 : decode cX12_happens 117 = .ok (.goto 28, 3) := by decide +kernel
theorem dX12_happens_120 : decode cX12_happens 120 = .ok (.aload_n 0, 1) := by decide +kernel
theorem dX12_happens_121 : decode cX12_happens 121 = .ok (.getfield 60, 3) := by decide +kernel
theorem dX12_happens_124 : decode cX12_happens 124 = .ok (.iload_n 2, 1) := by decide +kernel
theorem dX12_happens_125 : decode cX12_happens 125 = .ok (.iaload, 1) := by decide +kernel
theorem dX12_happens_126 : decode cX12_happens 126 = .ok (.goto 19, 3) := by decide +kernel
theorem dX12_happens_129 : decode cX12_happens 129 = .ok (.iload 4, 2) := by decide +kernel
theorem dX12_happens_131 : decode cX12_happens 131 = .ok (.ifCond .eq 13, 3) := by decide +kernel
theorem dX12_happens_134 : decode cX12_happens 134 = .ok (.aload_n 0, 1) := by decide +kernel
theorem dX12_happens_135 : decode cX12_happens 135 = .ok (.getfield 63, 3) := by decide +kernel
theorem dX12_happens_138 : decode cX12_happens 138 = .ok (.iload_n 2, 1) := by decide +kernel
theorem dX12_happens_139 : decode cX12_happens 139 = .ok (.iaload, 1) := by decide +kernel
theorem dX12_happens_140 : decode cX12_happens 140 = .ok (.ineg, 1) := by decide +kernel
theorem dX12_happens_141 : decode cX12_happens 141 = .ok (.goto 4, 3) := by decide +kernel
theorem dX12_happens_144 : decode cX12_happens 144 = .ok (.iconst 0, 1) := by decide +kernel
theorem dX12_happens_145 : decode cX12_happens 145 = .ok (.iastore, 1) := by decide +kernel
theorem dX12_happens_146 : decode cX12_happens 146 = .ok (.aload_n 0, 1) := by decide +kernel
theorem dX12_happens_147 : decode cX12_happens 147 = .ok (.getfield 99, 3) := by decide +kernel
theorem dX12_happens_150 : decode cX12_happens 150 = .ok (.iload_n 1, 1) := by decide +kernel
theorem dX12_happens_151 : decode cX12_happens 151 = .ok (.iaload, 1) := by decide +kernel
theorem dX12_happens_152 : decode cX12_happens 152 = .ok (.ifCond .ne 21, 3) := by decide +kernel
theorem dX12_happens_155 : decode cX12_happens 155 = .ok (.aload_n 0, 1) := by decide +kernel
theorem dX12_happens_156 : decode cX12_happens 156 = .ok (.dup, 1) := by decide +kernel
theorem dX12_happens_157 : decode cX12_happens 157 = .ok (.getfield 311, 3) := by decide +kernel
theorem dX12_happens_160 : decode cX12_happens 160 = .ok (.aload_n 0, 1) := by decide +kernel
theorem dX12_happens_161 : decode cX12_happens 161 = .ok (.getfield 102, 3) := by decide +kernel
theorem dX12_happens_164 : decode cX12_happens 164 = .ok (.iload_n 1, 1) := by decide +kernel
theorem dX12_happens_165 : decode cX12_happens 165 = .ok (.iaload, 1) := by decide +kernel
theorem dX12_happens_166 : decode cX12_happens 166 = .ok (.iadd, 1) := by decide +kernel
theorem dX12_happens_167 : decode cX12_happens 167 = .ok (.putfield 311, 3) := by decide +kernel
theorem dX12_happens_170 : decode cX12_happens 170 = .ok (.goto 18, 3) := by decide +kernel
theorem dX12_happens_173 : decode cX12_happens 173 = .ok (.aload_n 0, 1) := by decide +kernel
theorem dX12_happens_174 : decode cX12_happens 174 = .ok (.dup, 1) := by decide +kernel
theorem dX12_happens_175 : decode cX12_happens 175 = .ok (.getfield 314, 3) := by decide +kernel
theorem dX12_happens_178 : decode cX12_happens 178 = .ok (.aload_n 0, 1) := by decide +kernel
theorem dX12_happens_179 : decode cX12_happens 179 = .ok (.getfield 102, 3) := by decide +kernel
theorem dX12_happens_182 : decode cX12_happens 182 = .ok (.iload_n 1, 1) := by decide +kernel
theorem dX12_happens_183 : decode cX12_happens 183 = .ok (.iaload, 1) := by decide +kernel
theorem dX12_happens_184 : decode cX12_happens 184 = .ok (.iadd, 1) := by decide +kernel
theorem dX12_happens_185 : decode cX12_happens 185 = .ok (.putfield 314, 3) := by decide +kernel
theorem dX12_happens_188 : decode cX12_happens 188 = .ok (.iload_n 3, 1) := by decide +kernel
theorem dX12_happens_189 : decode cX12_happens 189 = .ok (.ifCond .ne 30, 3) := by decide +kernel
theorem dX12_happens_192 : decode cX12_happens 192 = .ok (.aload_n 0, 1) := by decide +kernel
theorem dX12_happens_193 : decode cX12_happens 193 = .ok (.getfield 299, 3) := by decide +kernel
theorem dX12_happens_196 : decode cX12_happens 196 = .ok (.iconst 1, 1) := by decide +kernel
theorem dX12_happens_197 : decode cX12_happens 197 = .ok (.if_icmp .eq 22, 3) := by decide +kernel
theorem dX12_happens_200 : decode cX12_happens 200 = .ok (.aload_n 0, 1) := by decide +kernel
theorem dX12_happens_201 : decode cX12_happens 201 = .ok (.getfield 66, 3) := by decide +kernel
theorem dX12_happens_204 : decode cX12_happens 204 = .ok (.iload_n 2, 1) := by decide +kernel
theorem dX12_happens_205 : decode cX12_happens 205 = .ok (.baload, 1) := by decide +kernel
theorem dX12_happens_206 : decode cX12_happens 206 = .ok (.ifCond .ne 26, 3) := by decide +kernel
theorem dX12_happens_209 : decode cX12_happens 209 = .ok (.aload_n 0, 1) := by decide +kernel
theorem dX12_happens_210 : decode cX12_happens 210 = .ok (.getfield 60, 3) := by decide +kernel
theorem dX12_happens_213 : decode cX12_happens 213 = .ok (.iload_n 2, 1) := by decide +kernel
theorem dX12_happens_214 : decode cX12_happens 214 = .ok (.iaload, 1) := by decide +kernel
theorem dX12_happens_215 : decode cX12_happens 215 = .ok (.iconst (-1), 1) := by decide +kernel
theorem dX12_happens_216 : decode cX12_happens 216 = .ok (.if_icmp .ne 16, 3) := by decide +kernel
theorem dX12_happens_219 : decode cX12_happens 219 = .ok (.aload_n 0, 1) := by decide +kernel
theorem dX12_happens_220 : decode cX12_happens 220 = .ok (.aload_n 0, 1) := by decide +kernel
theorem dX12_happens_221 : decode cX12_happens 221 = .ok (.getfield 296, 3) := by decide +kernel
theorem dX12_happens_224 : decode cX12_happens 224 = .ok (.iconst 1, 1) := by decide +kernel
theorem dX12_happens_225 : decode cX12_happens 225 = .ok (.iadd, 1) := by decide +kernel
theorem dX12_happens_226 : decode cX12_happens 226 = .ok (.invokevirtual 308, 3) := by decide +kernel
theorem dX12_happens_229 : decode cX12_happens 229 = .ok (.goto 20, 3) := by decide +kernel
theorem dX12_happens_232 : decode cX12_happens 232 = .ok (.aload_n 0, 1) := by decide +kernel
theorem dX12_happens_233 : decode cX12_happens 233 = .ok (.iconst 1, 1) := by decide +kernel
theorem dX12_happens_234 : decode cX12_happens 234 = .ok (.putfield 299, 3) := by decide +kernel
theorem dX12_happens_237 : decode cX12_happens 237 = .ok (.aload_n 0, 1) := by decide +kernel
theorem dX12_happens_238 : decode cX12_happens 238 = .ok (.iconst 1, 1) := by decide +kernel
theorem dX12_happens_239 : decode cX12_happens 239 = .ok (.aload_n 0, 1) := by decide +kernel
theorem dX12_happens_240 : decode cX12_happens 240 = .ok (.getfield 99, 3) := by decide +kernel
theorem dX12_happens_243 : decode cX12_happens 243 = .ok (.iload_n 1, 1) := by decide +kernel
theorem dX12_happens_244 : decode cX12_happens 244 = .ok (.iaload, 1) := by decide +kernel
theorem dX12_happens_245 : decode cX12_happens 245 = .ok (.isub, 1) := by decide +kernel
theorem dX12_happens_246 : decode cX12_happens 246 = .ok (.putfield 305, 3) := by decide +kernel
theorem dX12_happens_249 : decode cX12_happens 249 = .ok (.return_, 1) := by decide +kernel
theorem dX12_canCome_0 : decode cX12_canCome 0 = .ok (.aload_n 0, 1) := by decide +kernel
theorem dX12_canCome_1 : decode cX12_canCome 1 = .ok (.getfield 247, 3) := by decide +kernel
theorem dX12_canCome_4 : decode cX12_canCome 4 = .ok (.ifCond .eq 49, 3) := by decide +kernel
theorem dX12_canCome_7 : decode cX12_canCome 7 = .ok (.aload_n 0, 1) := by decide +kernel
theorem dX12_canCome_8 : decode cX12_canCome 8 = .ok (.getfield 305, 3) := by decide +kernel
theorem dX12_canCome_11 : decode cX12_canCome 11 = .ok (.iconst 3, 1) := by decide +kernel
theorem dX12_canCome_12 : decode cX12_canCome 12 = .ok (.if_icmp .ge 41, 3) := by decide +kernel
theorem dX12_canCome_15 : decode cX12_canCome 15 = .ok (.aload_n 0, 1) := by decide +kernel
theorem dX12_canCome_16 : decode cX12_canCome 16 = .ok (.getfield 290, 3) := by decide +kernel
theorem dX12_canCome_19 : decode cX12_canCome 19 = .ok (.bipush 120, 2) := by decide +kernel
theorem dX12_canCome_21 : decode cX12_canCome 21 = .ok (.if_icmp .ge 32, 3) := by decide +kernel
theorem dX12_canCome_24 : decode cX12_canCome 24 = .ok (.iload_n 1, 1) := by decide +kernel
theorem dX12_canCome_25 : decode cX12_canCome 25 = .ok (.ifCond .lt 28, 3) := by decide +kernel
theorem dX12_canCome_28 : decode cX12_canCome 28 = .ok (.iload_n 1, 1) := by decide +kernel
theorem dX12_canCome_29 : decode cX12_canCome 29 = .ok (.iconst 1, 1) := by decide +kernel
theorem dX12_canCome_30 : decode cX12_canCome 30 = .ok (.if_icmp .gt 23, 3) := by decide +kernel
theorem dX12_canCome_33 : decode cX12_canCome 33 = .ok (.aload_n 0, 1) := by decide +kernel
theorem dX12_canCome_34 : decode cX12_canCome 34 = .ok (.getfield 305, 3) := by decide +kernel
theorem dX12_canCome_37 : decode cX12_canCome 37 = .ok (.iconst 2, 1) := by decide +kernel
theorem dX12_canCome_38 : decode cX12_canCome 38 = .ok (.if_icmp .eq 11, 3) := by decide +kernel
theorem dX12_canCome_41 : decode cX12_canCome 41 = .ok (.aload_n 0, 1) := by decide +kernel
theorem dX12_canCome_42 : decode cX12_canCome 42 = .ok (.getfield 305, 3) := by decide +kernel
theorem dX12_canCome_45 : decode cX12_canCome 45 = .ok (.iload_n 1, 1) := by decide +kernel
theorem dX12_canCome_46 : decode cX12_canCome 46 = .ok (.if_icmp .ne 7, 3) := by decide +kernel
theorem dX12_canCome_49 : decode cX12_canCome 49 = .ok (.iconst 1, 1) := by decide +kernel
theorem dX12_canCome_50 : decode cX12_canCome 50 = .ok (.goto 4, 3) := by decide +kernel
theorem dX12_canCome_53 : decode cX12_canCome 53 = .ok (.iconst 0, 1) := by decide +kernel
theorem dX12_canCome_54 : decode cX12_canCome 54 = .ok (.ireturn, 1) := by decide +kernel
theorem dX12_tells_0 : decode cX12_tells 0 = .ok (.aload_n 0, 1) := by decide +kernel
theorem dX12_tells_1 : decode cX12_tells 1 = .ok (.getfield 93, 3) := by decide +kernel
theorem dX12_tells_4 : decode cX12_tells 4 = .ok (.aload_n 0, 1) := by decide +kernel
theorem dX12_tells_5 : decode cX12_tells 5 = .ok (.getfield 290, 3) := by decide +kernel
theorem dX12_tells_8 : decode cX12_tells 8 = .ok (.aload_n 0, 1) := by decide +kernel
theorem dX12_tells_9 : decode cX12_tells 9 = .ok (.getfield 296, 3) := by decide +kernel
theorem dX12_tells_12 : decode cX12_tells 12 = .ok (.iastore, 1) := by decide +kernel
theorem dX12_tells_13 : decode cX12_tells 13 = .ok (.aload_n 0, 1) := by decide +kernel
theorem dX12_tells_14 : decode cX12_tells 14 = .ok (.getfield 96, 3) := by decide +kernel
theorem dX12_tells_17 : decode cX12_tells 17 = .ok (.aload_n 0, 1) := by decide +kernel
theorem dX12_tells_18 : decode cX12_tells 18 = .ok (.getfield 290, 3) := by decide +kernel
theorem dX12_tells_21 : decode cX12_tells 21 = .ok (.iload_n 1, 1) := by decide +kernel
theorem dX12_tells_22 : decode cX12_tells 22 = .ok (.iastore, 1) := by decide +kernel
theorem dX12_tells_23 : decode cX12_tells 23 = .ok (.aload_n 0, 1) := by decide +kernel
theorem dX12_tells_24 : decode cX12_tells 24 = .ok (.getfield 99, 3) := by decide +kernel
theorem dX12_tells_27 : decode cX12_tells 27 = .ok (.aload_n 0, 1) := by decide +kernel
theorem dX12_tells_28 : decode cX12_tells 28 = .ok (.getfield 290, 3) := by decide +kernel
theorem dX12_tells_31 : decode cX12_tells 31 = .ok (.iload_n 2, 1) := by decide +kernel
theorem dX12_tells_32 : decode cX12_tells 32 = .ok (.iastore, 1) := by decide +kernel
theorem dX12_tells_33 : decode cX12_tells 33 = .ok (.aload_n 0, 1) := by decide +kernel
theorem dX12_tells_34 : decode cX12_tells 34 = .ok (.getfield 105, 3) := by decide +kernel
theorem dX12_tells_37 : decode cX12_tells 37 = .ok (.aload_n 0, 1) := by decide +kernel
theorem dX12_tells_38 : decode cX12_tells 38 = .ok (.getfield 290, 3) := by decide +kernel
theorem dX12_tells_41 : decode cX12_tells 41 = .ok (.iload_n 3, 1) := by decide +kernel
theorem dX12_tells_42 : decode cX12_tells 42 = .ok (.bastore, 1) := by decide +kernel
theorem dX12_tells_43 : decode cX12_tells 43 = .ok (.aload_n 0, 1) := by decide +kernel
theorem dX12_tells_44 : decode cX12_tells 44 = .ok (.dup, 1) := by decide +kernel
theorem dX12_tells_45 : decode cX12_tells 45 = .ok (.getfield 290, 3) := by decide +kernel
theorem dX12_tells_48 : decode cX12_tells 48 = .ok (.iconst 1, 1) := by decide +kernel
theorem dX12_tells_49 : decode cX12_tells 49 = .ok (.iadd, 1) := by decide +kernel
theorem dX12_tells_50 : decode cX12_tells 50 = .ok (.putfield 290, 3) := by decide +kernel
theorem dX12_tells_53 : decode cX12_tells 53 = .ok (.aload_n 0, 1) := by decide +kernel
theorem dX12_tells_54 : decode cX12_tells 54 = .ok (.invokevirtual 293, 3) := by decide +kernel
theorem dX12_tells_57 : decode cX12_tells 57 = .ok (.return_, 1) := by decide +kernel
theorem dX12_answer_0 : decode cX12_answer 0 = .ok (.aload_n 0, 1) := by decide +kernel
theorem dX12_answer_1 : decode cX12_answer 1 = .ok (.iconst 0, 1) := by decide +kernel
theorem dX12_answer_2 : decode cX12_answer 2 = .ok (.putfield 123, 3) := by decide +kernel
theorem dX12_answer_5 : decode cX12_answer 5 = .ok (.aload_n 0, 1) := by decide +kernel
theorem dX12_answer_6 : decode cX12_answer 6 = .ok (.invokevirtual 238, 3) := by decide +kernel
theorem dX12_answer_9 : decode cX12_answer 9 = .ok (.istore_n 2, 1) := by decide +kernel
theorem dX12_answer_10 : decode cX12_answer 10 = .ok (.aload_n 0, 1) := by decide +kernel
theorem dX12_answer_11 : decode cX12_answer 11 = .ok (.iload_n 1, 1) := by decide +kernel
theorem dX12_answer_12 : decode cX12_answer 12 = .ok (.invokevirtual 324, 3) := by decide +kernel
theorem dX12_answer_15 : decode cX12_answer 15 = .ok (.ifCond .ne 5, 3) := by decide +kernel
theorem dX12_answer_18 : decode cX12_answer 18 = .ok (.iconst (-1), 1) := by decide +kernel
theorem dX12_answer_19 : decode cX12_answer 19 = .ok (.ireturn, 1) := by decide +kernel
theorem dX12_answer_20 : decode cX12_answer 20 = .ok (.iload_n 2, 1) := by decide +kernel
theorem dX12_answer_21 : decode cX12_answer 21 = .ok (.ifCond .eq 23, 3) := by decide +kernel
theorem dX12_answer_24 : decode cX12_answer 24 = .ok (.aload_n 0, 1) := by decide +kernel
theorem dX12_answer_25 : decode cX12_answer 25 = .ok (.aload_n 0, 1) := by decide +kernel
theorem dX12_answer_26 : decode cX12_answer 26 = .ok (.getfield 84, 3) := by decide +kernel
theorem dX12_answer_29 : decode cX12_answer 29 = .ok (.aload_n 0, 1) := by decide +kernel
theorem dX12_answer_30 : decode cX12_answer 30 = .ok (.getfield 296, 3) := by decide +kernel
theorem dX12_answer_33 : decode cX12_answer 33 = .ok (.iaload, 1) := by decide +kernel
theorem dX12_answer_34 : decode cX12_answer 34 = .ok (.invokevirtual 244, 3) := by decide +kernel
theorem dX12_answer_37 : decode cX12_answer 37 = .ok (.ifCond .eq 7, 3) := by decide +kernel
theorem dX12_answer_40 : decode cX12_answer 40 = .ok (.iconst 1, 1) := by decide +kernel
theorem dX12_answer_41 : decode cX12_answer 41 = .ok (.goto 4, 3) := by decide +kernel
theorem dX12_answer_44 : decode cX12_answer 44 = .ok (.iconst 0, 1) := by decide +kernel
theorem dX12_answer_45 : decode cX12_answer 45 = .ok (.istore_n 2, 1) := by decide +kernel
theorem dX12_answer_46 : decode cX12_answer 46 = .ok (.aload_n 0, 1) := by decide +kernel
theorem dX12_answer_47 : decode cX12_answer 47 = .ok (.iconst 0, 1) := by decide +kernel
theorem dX12_answer_48 : decode cX12_answer 48 = .ok (.iload_n 1, 1) := by decide +kernel
theorem dX12_answer_49 : decode cX12_answer 49 = .ok (.iload_n 2, 1) := by decide +kernel
theorem dX12_answer_50 : decode cX12_answer 50 = .ok (.invokevirtual 327, 3) := by decide +kernel
theorem dX12_answer_53 : decode cX12_answer 53 = .ok (.iload_n 2, 1) := by decide +kernel
theorem dX12_answer_54 : decode cX12_answer 54 = .ok (.ifCond .eq 7, 3) := by decide +kernel
theorem dX12_answer_57 : decode cX12_answer 57 = .ok (.iconst 1, 1) := by decide +kernel
theorem dX12_answer_58 : decode cX12_answer 58 = .ok (.goto 4, 3) := by decide +kernel
theorem dX12_answer_61 : decode cX12_answer 61 = .ok (.iconst 0, 1) := by decide +kernel
theorem dX12_answer_62 : decode cX12_answer 62 = .ok (.ireturn, 1) := by decide +kernel
theorem dX12_nothing_0 : decode cX12_nothing 0 = .ok (.aload_n 0, 1) := by decide +kernel
theorem dX12_nothing_1 : decode cX12_nothing 1 = .ok (.iconst 0, 1) := by decide +kernel
theorem dX12_nothing_2 : decode cX12_nothing 2 = .ok (.putfield 123, 3) := by decide +kernel
theorem dX12_nothing_5 : decode cX12_nothing 5 = .ok (.aload_n 0, 1) := by decide +kernel
theorem dX12_nothing_6 : decode cX12_nothing 6 = .ok (.iload_n 1, 1) := by decide +kernel
theorem dX12_nothing_7 : decode cX12_nothing 7 = .ok (.invokevirtual 324, 3) := by decide +kernel
theorem dX12_nothing_10 : decode cX12_nothing 10 = .ok (.ifCond .eq 19, 3) := by decide +kernel
theorem dX12_nothing_13 : decode cX12_nothing 13 = .ok (.aload_n 0, 1) := by decide +kernel
theorem dX12_nothing_14 : decode cX12_nothing 14 = .ok (.getfield 66, 3) := by decide +kernel
theorem dX12_nothing_17 : decode cX12_nothing 17 = .ok (.aload_n 0, 1) := by decide +kernel
theorem dX12_nothing_18 : decode cX12_nothing 18 = .ok (.aload_n 0, 1) := by decide +kernel
theorem dX12_nothing_19 : decode cX12_nothing 19 = .ok (.getfield 296, 3) := by decide +kernel
theorem dX12_nothing_22 : decode cX12_nothing 22 = .ok (.invokevirtual 302, 3) := by decide +kernel
theorem dX12_nothing_25 : decode cX12_nothing 25 = .ok (.baload, 1) := by decide +kernel
theorem dX12_nothing_26 : decode cX12_nothing 26 = .ok (.ifCond .eq 5, 3) := by decide +kernel
theorem dX12_nothing_29 : decode cX12_nothing 29 = .ok (.iconst 0, 1) := by decide +kernel
theorem dX12_nothing_30 : decode cX12_nothing 30 = .ok (.ireturn, 1) := by decide +kernel
theorem dX12_nothing_31 : decode cX12_nothing 31 = .ok (.aload_n 0, 1) := by decide +kernel
theorem dX12_nothing_32 : decode cX12_nothing 32 = .ok (.iconst 1, 1) := by decide +kernel
theorem dX12_nothing_33 : decode cX12_nothing 33 = .ok (.iload_n 1, 1) := by decide +kernel
theorem dX12_nothing_34 : decode cX12_nothing 34 = .ok (.iconst 0, 1) := by decide +kernel
theorem dX12_nothing_35 : decode cX12_nothing 35 = .ok (.invokevirtual 327, 3) := by decide +kernel
theorem dX12_nothing_38 : decode cX12_nothing 38 = .ok (.iconst 1, 1) := by decide +kernel
theorem dX12_nothing_39 : decode cX12_nothing 39 = .ok (.ireturn, 1) := by decide +kernel
theorem dX12_dead_0 : decode cX12_dead 0 = .ok (.aload_n 0, 1) := by decide +kernel
theorem dX12_dead_1 : decode cX12_dead 1 = .ok (.iconst 0, 1) := by decide +kernel
theorem dX12_dead_2 : decode cX12_dead 2 = .ok (.putfield 123, 3) := by decide +kernel
theorem dX12_dead_5 : decode cX12_dead 5 = .ok (.aload_n 0, 1) := by decide +kernel
theorem dX12_dead_6 : decode cX12_dead 6 = .ok (.getfield 247, 3) := by decide +kernel
theorem dX12_dead_9 : decode cX12_dead 9 = .ok (.ifCond .eq 36, 3) := by decide +kernel
theorem dX12_dead_12 : decode cX12_dead 12 = .ok (.aload_n 0, 1) := by decide +kernel
theorem dX12_dead_13 : decode cX12_dead 13 = .ok (.getfield 305, 3) := by decide +kernel
theorem dX12_dead_16 : decode cX12_dead 16 = .ok (.iconst 3, 1) := by decide +kernel
theorem dX12_dead_17 : decode cX12_dead 17 = .ok (.if_icmp .eq 28, 3) := by decide +kernel
theorem dX12_dead_20 : decode cX12_dead 20 = .ok (.aload_n 0, 1) := by decide +kernel
theorem dX12_dead_21 : decode cX12_dead 21 = .ok (.getfield 290, 3) := by decide +kernel
theorem dX12_dead_24 : decode cX12_dead 24 = .ok (.bipush 120, 2) := by decide +kernel
theorem dX12_dead_26 : decode cX12_dead 26 = .ok (.if_icmp .eq 19, 3) := by decide +kernel
theorem dX12_dead_29 : decode cX12_dead 29 = .ok (.aload_n 0, 1) := by decide +kernel
theorem dX12_dead_30 : decode cX12_dead 30 = .ok (.getfield 66, 3) := by decide +kernel
theorem dX12_dead_33 : decode cX12_dead 33 = .ok (.aload_n 0, 1) := by decide +kernel
theorem dX12_dead_34 : decode cX12_dead 34 = .ok (.aload_n 0, 1) := by decide +kernel
theorem dX12_dead_35 : decode cX12_dead 35 = .ok (.getfield 296, 3) := by decide +kernel
theorem dX12_dead_38 : decode cX12_dead 38 = .ok (.invokevirtual 302, 3) := by decide +kernel
theorem dX12_dead_41 : decode cX12_dead 41 = .ok (.baload, 1) := by decide +kernel
theorem dX12_dead_42 : decode cX12_dead 42 = .ok (.ifCond .ne 5, 3) := by decide +kernel
theorem dX12_dead_45 : decode cX12_dead 45 = .ok (.iconst 0, 1) := by decide +kernel
theorem dX12_dead_46 : decode cX12_dead 46 = .ok (.ireturn, 1) := by decide +kernel
theorem dX12_dead_47 : decode cX12_dead 47 = .ok (.aload_n 0, 1) := by decide +kernel
theorem dX12_dead_48 : decode cX12_dead 48 = .ok (.iconst 2, 1) := by decide +kernel
theorem dX12_dead_49 : decode cX12_dead 49 = .ok (.iconst (-1), 1) := by decide +kernel
theorem dX12_dead_50 : decode cX12_dead 50 = .ok (.iconst 0, 1) := by decide +kernel
theorem dX12_dead_51 : decode cX12_dead 51 = .ok (.invokevirtual 327, 3) := by decide +kernel
theorem dX12_dead_54 : decode cX12_dead 54 = .ok (.iconst 1, 1) := by decide +kernel
theorem dX12_dead_55 : decode cX12_dead 55 = .ok (.ireturn, 1) := by decide +kernel
theorem dX12_appeal_0 : decode cX12_appeal 0 = .ok (.aload_n 0, 1) := by decide +kernel
theorem dX12_appeal_1 : decode cX12_appeal 1 = .ok (.iconst 0, 1) := by decide +kernel
theorem dX12_appeal_2 : decode cX12_appeal 2 = .ok (.putfield 123, 3) := by decide +kernel
theorem dX12_appeal_5 : decode cX12_appeal 5 = .ok (.aload_n 0, 1) := by decide +kernel
theorem dX12_appeal_6 : decode cX12_appeal 6 = .ok (.getfield 247, 3) := by decide +kernel
theorem dX12_appeal_9 : decode cX12_appeal 9 = .ok (.ifCond .eq 34, 3) := by decide +kernel
theorem dX12_appeal_12 : decode cX12_appeal 12 = .ok (.iload_n 1, 1) := by decide +kernel
theorem dX12_appeal_13 : decode cX12_appeal 13 = .ok (.ifCond .lt 30, 3) := by decide +kernel
theorem dX12_appeal_16 : decode cX12_appeal 16 = .ok (.iload_n 1, 1) := by decide +kernel
theorem dX12_appeal_17 : decode cX12_appeal 17 = .ok (.aload_n 0, 1) := by decide +kernel
theorem dX12_appeal_18 : decode cX12_appeal 18 = .ok (.getfield 290, 3) := by decide +kernel
theorem dX12_appeal_21 : decode cX12_appeal 21 = .ok (.if_icmp .ge 22, 3) := by decide +kernel
theorem dX12_appeal_24 : decode cX12_appeal 24 = .ok (.aload_n 0, 1) := by decide +kernel
theorem dX12_appeal_25 : decode cX12_appeal 25 = .ok (.getfield 96, 3) := by decide +kernel
theorem dX12_appeal_28 : decode cX12_appeal 28 = .ok (.iload_n 1, 1) := by decide +kernel
theorem dX12_appeal_29 : decode cX12_appeal 29 = .ok (.iaload, 1) := by decide +kernel
theorem dX12_appeal_30 : decode cX12_appeal 30 = .ok (.ifCond .gt 13, 3) := by decide +kernel
theorem dX12_appeal_33 : decode cX12_appeal 33 = .ok (.aload_n 0, 1) := by decide +kernel
theorem dX12_appeal_34 : decode cX12_appeal 34 = .ok (.getfield 105, 3) := by decide +kernel
theorem dX12_appeal_37 : decode cX12_appeal 37 = .ok (.iload_n 1, 1) := by decide +kernel
theorem dX12_appeal_38 : decode cX12_appeal 38 = .ok (.baload, 1) := by decide +kernel
theorem dX12_appeal_39 : decode cX12_appeal 39 = .ok (.iload_n 2, 1) := by decide +kernel
theorem dX12_appeal_40 : decode cX12_appeal 40 = .ok (.if_icmp .ne 5, 3) := by decide +kernel
theorem dX12_appeal_43 : decode cX12_appeal 43 = .ok (.iconst 0, 1) := by decide +kernel
theorem dX12_appeal_44 : decode cX12_appeal 44 = .ok (.ireturn, 1) := by decide +kernel
theorem dX12_appeal_45 : decode cX12_appeal 45 = .ok (.aload_n 0, 1) := by decide +kernel
theorem dX12_appeal_46 : decode cX12_appeal 46 = .ok (.getfield 105, 3) := by decide +kernel
theorem dX12_appeal_49 : decode cX12_appeal 49 = .ok (.iload_n 1, 1) := by decide +kernel
theorem dX12_appeal_50 : decode cX12_appeal 50 = .ok (.iload_n 2, 1) := by decide +kernel
theorem dX12_appeal_51 : decode cX12_appeal 51 = .ok (.bastore, 1) := by decide +kernel
theorem dX12_appeal_52 : decode cX12_appeal 52 = .ok (.aload_n 0, 1) := by decide +kernel
theorem dX12_appeal_53 : decode cX12_appeal 53 = .ok (.invokevirtual 293, 3) := by decide +kernel
theorem dX12_appeal_56 : decode cX12_appeal 56 = .ok (.iconst 1, 1) := by decide +kernel
theorem dX12_appeal_57 : decode cX12_appeal 57 = .ok (.ireturn, 1) := by decide +kernel
theorem dX12_undo_0 : decode cX12_undo 0 = .ok (.aload_n 0, 1) := by decide +kernel
theorem dX12_undo_1 : decode cX12_undo 1 = .ok (.iconst 0, 1) := by decide +kernel
theorem dX12_undo_2 : decode cX12_undo 2 = .ok (.putfield 123, 3) := by decide +kernel
theorem dX12_undo_5 : decode cX12_undo 5 = .ok (.aload_n 0, 1) := by decide +kernel
theorem dX12_undo_6 : decode cX12_undo 6 = .ok (.getfield 247, 3) := by decide +kernel
theorem dX12_undo_9 : decode cX12_undo 9 = .ok (.ifCond .eq 10, 3) := by decide +kernel
theorem dX12_undo_12 : decode cX12_undo 12 = .ok (.aload_n 0, 1) := by decide +kernel
theorem dX12_undo_13 : decode cX12_undo 13 = .ok (.getfield 290, 3) := by decide +kernel
theorem dX12_undo_16 : decode cX12_undo 16 = .ok (.ifCond .ne 5, 3) := by decide +kernel
theorem dX12_undo_19 : decode cX12_undo 19 = .ok (.iconst 0, 1) := by decide +kernel
theorem dX12_undo_20 : decode cX12_undo 20 = .ok (.ireturn, 1) := by decide +kernel
theorem dX12_undo_21 : decode cX12_undo 21 = .ok (.aload_n 0, 1) := by decide +kernel
theorem dX12_undo_22 : decode cX12_undo 22 = .ok (.dup, 1) := by decide +kernel
theorem dX12_undo_23 : decode cX12_undo 23 = .ok (.getfield 290, 3) := by decide +kernel
theorem dX12_undo_26 : decode cX12_undo 26 = .ok (.iconst 1, 1) := by decide +kernel
theorem dX12_undo_27 : decode cX12_undo 27 = .ok (.isub, 1) := by decide +kernel
theorem dX12_undo_28 : decode cX12_undo 28 = .ok (.putfield 290, 3) := by decide +kernel
theorem dX12_undo_31 : decode cX12_undo 31 = .ok (.aload_n 0, 1) := by decide +kernel
theorem dX12_undo_32 : decode cX12_undo 32 = .ok (.invokevirtual 293, 3) := by decide +kernel
theorem dX12_undo_35 : decode cX12_undo 35 = .ok (.iconst 1, 1) := by decide +kernel
theorem dX12_undo_36 : decode cX12_undo 36 = .ok (.ireturn, 1) := by decide +kernel
theorem dX12_now_0 : decode cX12_now 0 = .ok (.aload_n 0, 1) := by decide +kernel
theorem dX12_now_1 : decode cX12_now 1 = .ok (.iconst 0, 1) := by decide +kernel
theorem dX12_now_2 : decode cX12_now 2 = .ok (.putfield 123, 3) := by decide +kernel
theorem dX12_now_5 : decode cX12_now 5 = .ok (.aload_n 0, 1) := by decide +kernel
theorem dX12_now_6 : decode cX12_now 6 = .ok (.getfield 247, 3) := by decide +kernel
theorem dX12_now_9 : decode cX12_now 9 = .ok (.ifCond .ne 5, 3) := by decide +kernel
theorem dX12_now_12 : decode cX12_now 12 = .ok (.iconst (-1), 1) := by decide +kernel
theorem dX12_now_13 : decode cX12_now 13 = .ok (.ireturn, 1) := by decide +kernel
theorem dX12_now_14 : decode cX12_now 14 = .ok (.iload_n 1, 1) := by decide +kernel
theorem dX12_now_15 : decode cX12_now 15 = .ok (.tableswitch 67 0 5 #[37, 42, 47, 52, 57, 62], 37) := by decide +kernel
theorem dX12_now_52 : decode cX12_now 52 = .ok (.aload_n 0, 1) := by decide +kernel
theorem dX12_now_53 : decode cX12_now 53 = .ok (.getfield 296, 3) := by decide +kernel
theorem dX12_now_56 : decode cX12_now 56 = .ok (.ireturn, 1) := by decide +kernel
theorem dX12_now_57 : decode cX12_now 57 = .ok (.aload_n 0, 1) := by decide +kernel
theorem dX12_now_58 : decode cX12_now 58 = .ok (.getfield 305, 3) := by decide +kernel
theorem dX12_now_61 : decode cX12_now 61 = .ok (.ireturn, 1) := by decide +kernel
theorem dX12_now_62 : decode cX12_now 62 = .ok (.aload_n 0, 1) := by decide +kernel
theorem dX12_now_63 : decode cX12_now 63 = .ok (.getfield 311, 3) := by decide +kernel
theorem dX12_now_66 : decode cX12_now 66 = .ok (.ireturn, 1) := by decide +kernel
theorem dX12_now_67 : decode cX12_now 67 = .ok (.aload_n 0, 1) := by decide +kernel
theorem dX12_now_68 : decode cX12_now 68 = .ok (.getfield 314, 3) := by decide +kernel
theorem dX12_now_71 : decode cX12_now 71 = .ok (.ireturn, 1) := by decide +kernel
theorem dX12_now_72 : decode cX12_now 72 = .ok (.aload_n 0, 1) := by decide +kernel
theorem dX12_now_73 : decode cX12_now 73 = .ok (.getfield 290, 3) := by decide +kernel
theorem dX12_now_76 : decode cX12_now 76 = .ok (.ireturn, 1) := by decide +kernel
theorem dX12_now_77 : decode cX12_now 77 = .ok (.aload_n 0, 1) := by decide +kernel
theorem dX12_now_78 : decode cX12_now 78 = .ok (.getfield 317, 3) := by decide +kernel
theorem dX12_now_81 : decode cX12_now 81 = .ok (.ireturn, 1) := by decide +kernel
theorem dX12_now_82 : decode cX12_now 82 = .ok (.iconst (-1), 1) := by decide +kernel
theorem dX12_now_83 : decode cX12_now 83 = .ok (.ireturn, 1) := by decide +kernel
theorem dX12_event_0 : decode cX12_event 0 = .ok (.aload_n 0, 1) := by decide +kernel
theorem dX12_event_1 : decode cX12_event 1 = .ok (.aload_n 0, 1) := by decide +kernel
theorem dX12_event_2 : decode cX12_event 2 = .ok (.getfield 247, 3) := by decide +kernel
theorem dX12_event_5 : decode cX12_event 5 = .ok (.ifCond .eq 24, 3) := by decide +kernel
theorem dX12_event_8 : decode cX12_event 8 = .ok (.iload_n 1, 1) := by decide +kernel
theorem dX12_event_9 : decode cX12_event 9 = .ok (.ifCond .lt 20, 3) := by decide +kernel
theorem dX12_event_12 : decode cX12_event 12 = .ok (.iload_n 1, 1) := by decide +kernel
theorem dX12_event_13 : decode cX12_event 13 = .ok (.aload_n 0, 1) := by decide +kernel
theorem dX12_event_14 : decode cX12_event 14 = .ok (.getfield 290, 3) := by decide +kernel
theorem dX12_event_17 : decode cX12_event 17 = .ok (.if_icmp .ge 12, 3) := by decide +kernel
theorem dX12_event_20 : decode cX12_event 20 = .ok (.iload_n 2, 1) := by decide +kernel
theorem dX12_event_21 : decode cX12_event 21 = .ok (.ifCond .lt 8, 3) := by decide +kernel
theorem dX12_event_24 : decode cX12_event 24 = .ok (.iload_n 2, 1) := by decide +kernel
theorem dX12_event_25 : decode cX12_event 25 = .ok (.iconst 5, 1) := by decide +kernel
