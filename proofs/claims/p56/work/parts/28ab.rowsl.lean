theorem dL_seen_76 : decode cL_seen 76 = .ok (.invokevirtual 201, 3) := by decide +kernel
theorem dL_seen_79 : decode cL_seen 79 = .ok (.iastore, 1) := by decide +kernel
theorem dL_seen_80 : decode cL_seen 80 = .ok (.iconst 0, 1) := by decide +kernel
theorem dL_seen_81 : decode cL_seen 81 = .ok (.istore_n 2, 1) := by decide +kernel
theorem dL_seen_82 : decode cL_seen 82 = .ok (.iload_n 2, 1) := by decide +kernel
theorem dL_seen_83 : decode cL_seen 83 = .ok (.aload_n 0, 1) := by decide +kernel
theorem dL_seen_84 : decode cL_seen 84 = .ok (.invokevirtual 126, 3) := by decide +kernel
theorem dL_seen_87 : decode cL_seen 87 = .ok (.if_icmp .ge 86, 3) := by decide +kernel
theorem dL_seen_90 : decode cL_seen 90 = .ok (.bipush 10, 2) := by decide +kernel
theorem dL_seen_92 : decode cL_seen 92 = .ok (.bipush 7, 2) := by decide +kernel
theorem dL_seen_94 : decode cL_seen 94 = .ok (.iload_n 2, 1) := by decide +kernel
theorem dL_seen_95 : decode cL_seen 95 = .ok (.imul, 1) := by decide +kernel
theorem dL_seen_96 : decode cL_seen 96 = .ok (.iadd, 1) := by decide +kernel
theorem dL_seen_97 : decode cL_seen 97 = .ok (.istore_n 3, 1) := by decide +kernel
theorem dL_seen_98 : decode cL_seen 98 = .ok (.aload_n 1, 1) := by decide +kernel
theorem dL_seen_99 : decode cL_seen 99 = .ok (.iload_n 3, 1) := by decide +kernel
theorem dL_seen_100 : decode cL_seen 100 = .ok (.aload_n 0, 1) := by decide +kernel
theorem dL_seen_101 : decode cL_seen 101 = .ok (.iload_n 2, 1) := by decide +kernel
theorem dL_seen_102 : decode cL_seen 102 = .ok (.invokevirtual 204, 3) := by decide +kernel
theorem dL_seen_105 : decode cL_seen 105 = .ok (.iastore, 1) := by decide +kernel
theorem dL_seen_106 : decode cL_seen 106 = .ok (.aload_n 1, 1) := by decide +kernel
theorem dL_seen_107 : decode cL_seen 107 = .ok (.iload_n 3, 1) := by decide +kernel
theorem dL_seen_108 : decode cL_seen 108 = .ok (.iconst 1, 1) := by decide +kernel
theorem dL_seen_109 : decode cL_seen 109 = .ok (.iadd, 1) := by decide +kernel
theorem dL_seen_110 : decode cL_seen 110 = .ok (.aload_n 0, 1) := by decide +kernel
theorem dL_seen_111 : decode cL_seen 111 = .ok (.iload_n 2, 1) := by decide +kernel
theorem dL_seen_112 : decode cL_seen 112 = .ok (.invokevirtual 207, 3) := by decide +kernel
theorem dL_seen_115 : decode cL_seen 115 = .ok (.iastore, 1) := by decide +kernel
theorem dL_seen_116 : decode cL_seen 116 = .ok (.aload_n 1, 1) := by decide +kernel
theorem dL_seen_117 : decode cL_seen 117 = .ok (.iload_n 3, 1) := by decide +kernel
theorem dL_seen_118 : decode cL_seen 118 = .ok (.iconst 2, 1) := by decide +kernel
theorem dL_seen_119 : decode cL_seen 119 = .ok (.iadd, 1) := by decide +kernel
theorem dL_seen_120 : decode cL_seen 120 = .ok (.aload_n 0, 1) := by decide +kernel
theorem dL_seen_121 : decode cL_seen 121 = .ok (.iload_n 2, 1) := by decide +kernel
theorem dL_seen_122 : decode cL_seen 122 = .ok (.invokevirtual 210, 3) := by decide +kernel
theorem dL_seen_125 : decode cL_seen 125 = .ok (.iastore, 1) := by decide +kernel
theorem dL_seen_126 : decode cL_seen 126 = .ok (.aload_n 1, 1) := by decide +kernel
theorem dL_seen_127 : decode cL_seen 127 = .ok (.iload_n 3, 1) := by decide +kernel
theorem dL_seen_128 : decode cL_seen 128 = .ok (.iconst 3, 1) := by decide +kernel
theorem dL_seen_129 : decode cL_seen 129 = .ok (.iadd, 1) := by decide +kernel
theorem dL_seen_130 : decode cL_seen 130 = .ok (.aload_n 0, 1) := by decide +kernel
theorem dL_seen_131 : decode cL_seen 131 = .ok (.iload_n 2, 1) := by decide +kernel
theorem dL_seen_132 : decode cL_seen 132 = .ok (.invokevirtual 213, 3) := by decide +kernel
theorem dL_seen_135 : decode cL_seen 135 = .ok (.iastore, 1) := by decide +kernel
theorem dL_seen_136 : decode cL_seen 136 = .ok (.aload_n 1, 1) := by decide +kernel
theorem dL_seen_137 : decode cL_seen 137 = .ok (.iload_n 3, 1) := by decide +kernel
theorem dL_seen_138 : decode cL_seen 138 = .ok (.iconst 4, 1) := by decide +kernel
theorem dL_seen_139 : decode cL_seen 139 = .ok (.iadd, 1) := by decide +kernel
theorem dL_seen_140 : decode cL_seen 140 = .ok (.aload_n 0, 1) := by decide +kernel
theorem dL_seen_141 : decode cL_seen 141 = .ok (.iload_n 2, 1) := by decide +kernel
theorem dL_seen_142 : decode cL_seen 142 = .ok (.invokevirtual 215, 3) := by decide +kernel
theorem dL_seen_145 : decode cL_seen 145 = .ok (.iastore, 1) := by decide +kernel
theorem dL_seen_146 : decode cL_seen 146 = .ok (.aload_n 1, 1) := by decide +kernel
theorem dL_seen_147 : decode cL_seen 147 = .ok (.iload_n 3, 1) := by decide +kernel
theorem dL_seen_148 : decode cL_seen 148 = .ok (.iconst 5, 1) := by decide +kernel
theorem dL_seen_149 : decode cL_seen 149 = .ok (.iadd, 1) := by decide +kernel
theorem dL_seen_150 : decode cL_seen 150 = .ok (.aload_n 0, 1) := by decide +kernel
theorem dL_seen_151 : decode cL_seen 151 = .ok (.iload_n 2, 1) := by decide +kernel
theorem dL_seen_152 : decode cL_seen 152 = .ok (.invokestatic 218, 3) := by decide +kernel
theorem dL_seen_155 : decode cL_seen 155 = .ok (.iastore, 1) := by decide +kernel
theorem dL_seen_156 : decode cL_seen 156 = .ok (.aload_n 1, 1) := by decide +kernel
theorem dL_seen_157 : decode cL_seen 157 = .ok (.iload_n 3, 1) := by decide +kernel
theorem dL_seen_158 : decode cL_seen 158 = .ok (.bipush 6, 2) := by decide +kernel
theorem dL_seen_160 : decode cL_seen 160 = .ok (.iadd, 1) := by decide +kernel
theorem dL_seen_161 : decode cL_seen 161 = .ok (.aload_n 0, 1) := by decide +kernel
theorem dL_seen_162 : decode cL_seen 162 = .ok (.iload_n 2, 1) := by decide +kernel
theorem dL_seen_163 : decode cL_seen 163 = .ok (.invokevirtual 220, 3) := by decide +kernel
theorem dL_seen_166 : decode cL_seen 166 = .ok (.iastore, 1) := by decide +kernel
theorem dL_seen_167 : decode cL_seen 167 = .ok (.iinc 2 1, 3) := by decide +kernel
theorem dL_seen_170 : decode cL_seen 170 = .ok (.goto (-88), 3) := by decide +kernel
theorem dL_seen_173 : decode cL_seen 173 = .ok (.iconst 0, 1) := by decide +kernel
theorem dL_seen_174 : decode cL_seen 174 = .ok (.istore_n 2, 1) := by decide +kernel
theorem dL_seen_175 : decode cL_seen 175 = .ok (.iload_n 2, 1) := by decide +kernel
theorem dL_seen_176 : decode cL_seen 176 = .ok (.aload_n 0, 1) := by decide +kernel
theorem dL_seen_177 : decode cL_seen 177 = .ok (.invokevirtual 180, 3) := by decide +kernel
theorem dL_seen_180 : decode cL_seen 180 = .ok (.if_icmp .ge 89, 3) := by decide +kernel
theorem dL_seen_183 : decode cL_seen 183 = .ok (.bipush 100, 2) := by decide +kernel
theorem dL_seen_185 : decode cL_seen 185 = .ok (.bipush 10, 2) := by decide +kernel
theorem dL_seen_187 : decode cL_seen 187 = .ok (.iload_n 2, 1) := by decide +kernel
theorem dL_seen_188 : decode cL_seen 188 = .ok (.imul, 1) := by decide +kernel
theorem dL_seen_189 : decode cL_seen 189 = .ok (.iadd, 1) := by decide +kernel
theorem dL_seen_190 : decode cL_seen 190 = .ok (.istore_n 3, 1) := by decide +kernel
theorem dL_seen_191 : decode cL_seen 191 = .ok (.aload_n 1, 1) := by decide +kernel
theorem dL_seen_192 : decode cL_seen 192 = .ok (.iload_n 3, 1) := by decide +kernel
theorem dL_seen_193 : decode cL_seen 193 = .ok (.aload_n 0, 1) := by decide +kernel
theorem dL_seen_194 : decode cL_seen 194 = .ok (.iload_n 2, 1) := by decide +kernel
theorem dL_seen_195 : decode cL_seen 195 = .ok (.invokevirtual 223, 3) := by decide +kernel
theorem dL_seen_198 : decode cL_seen 198 = .ok (.iastore, 1) := by decide +kernel
theorem dL_seen_199 : decode cL_seen 199 = .ok (.aload_n 1, 1) := by decide +kernel
theorem dL_seen_200 : decode cL_seen 200 = .ok (.iload_n 3, 1) := by decide +kernel
theorem dL_seen_201 : decode cL_seen 201 = .ok (.iconst 1, 1) := by decide +kernel
theorem dL_seen_202 : decode cL_seen 202 = .ok (.iadd, 1) := by decide +kernel
theorem dL_seen_203 : decode cL_seen 203 = .ok (.aload_n 0, 1) := by decide +kernel
theorem dL_seen_204 : decode cL_seen 204 = .ok (.iload_n 2, 1) := by decide +kernel
theorem dL_seen_205 : decode cL_seen 205 = .ok (.invokevirtual 226, 3) := by decide +kernel
theorem dL_seen_208 : decode cL_seen 208 = .ok (.iastore, 1) := by decide +kernel
theorem dL_seen_209 : decode cL_seen 209 = .ok (.aload_n 1, 1) := by decide +kernel
theorem dL_seen_210 : decode cL_seen 210 = .ok (.iload_n 3, 1) := by decide +kernel
theorem dL_seen_211 : decode cL_seen 211 = .ok (.iconst 2, 1) := by decide +kernel
theorem dL_seen_212 : decode cL_seen 212 = .ok (.iadd, 1) := by decide +kernel
theorem dL_seen_213 : decode cL_seen 213 = .ok (.aload_n 0, 1) := by decide +kernel
theorem dL_seen_214 : decode cL_seen 214 = .ok (.iload_n 2, 1) := by decide +kernel
theorem dL_seen_215 : decode cL_seen 215 = .ok (.invokestatic 229, 3) := by decide +kernel
theorem dL_seen_218 : decode cL_seen 218 = .ok (.iastore, 1) := by decide +kernel
theorem dL_seen_219 : decode cL_seen 219 = .ok (.aload_n 1, 1) := by decide +kernel
theorem dL_seen_220 : decode cL_seen 220 = .ok (.iload_n 3, 1) := by decide +kernel
theorem dL_seen_221 : decode cL_seen 221 = .ok (.iconst 3, 1) := by decide +kernel
theorem dL_seen_222 : decode cL_seen 222 = .ok (.iadd, 1) := by decide +kernel
theorem dL_seen_223 : decode cL_seen 223 = .ok (.aload_n 0, 1) := by decide +kernel
theorem dL_seen_224 : decode cL_seen 224 = .ok (.iload_n 2, 1) := by decide +kernel
theorem dL_seen_225 : decode cL_seen 225 = .ok (.invokevirtual 231, 3) := by decide +kernel
theorem dL_seen_228 : decode cL_seen 228 = .ok (.iastore, 1) := by decide +kernel
theorem dL_seen_229 : decode cL_seen 229 = .ok (.iconst 0, 1) := by decide +kernel
theorem dL_seen_230 : decode cL_seen 230 = .ok (.istore 4, 2) := by decide +kernel
theorem dL_seen_232 : decode cL_seen 232 = .ok (.iload 4, 2) := by decide +kernel
theorem dL_seen_234 : decode cL_seen 234 = .ok (.aload_n 0, 1) := by decide +kernel
theorem dL_seen_235 : decode cL_seen 235 = .ok (.iload_n 2, 1) := by decide +kernel
theorem dL_seen_236 : decode cL_seen 236 = .ok (.invokevirtual 231, 3) := by decide +kernel
theorem dL_seen_239 : decode cL_seen 239 = .ok (.if_icmp .ge 24, 3) := by decide +kernel
theorem dL_seen_242 : decode cL_seen 242 = .ok (.aload_n 1, 1) := by decide +kernel
theorem dL_seen_243 : decode cL_seen 243 = .ok (.iload_n 3, 1) := by decide +kernel
theorem dL_seen_244 : decode cL_seen 244 = .ok (.iconst 4, 1) := by decide +kernel
theorem dL_seen_245 : decode cL_seen 245 = .ok (.iadd, 1) := by decide +kernel
theorem dL_seen_246 : decode cL_seen 246 = .ok (.iload 4, 2) := by decide +kernel
theorem dL_seen_248 : decode cL_seen 248 = .ok (.iadd, 1) := by decide +kernel
theorem dL_seen_249 : decode cL_seen 249 = .ok (.aload_n 0, 1) := by decide +kernel
theorem dL_seen_250 : decode cL_seen 250 = .ok (.iload_n 2, 1) := by decide +kernel
theorem dL_seen_251 : decode cL_seen 251 = .ok (.iload 4, 2) := by decide +kernel
theorem dL_seen_253 : decode cL_seen 253 = .ok (.invokestatic 234, 3) := by decide +kernel
theorem dL_seen_256 : decode cL_seen 256 = .ok (.iastore, 1) := by decide +kernel
theorem dL_seen_257 : decode cL_seen 257 = .ok (.iinc 4 1, 3) := by decide +kernel
theorem dL_seen_260 : decode cL_seen 260 = .ok (.goto (-28), 3) := by decide +kernel
theorem dL_seen_263 : decode cL_seen 263 = .ok (.iinc 2 1, 3) := by decide +kernel
theorem dL_seen_266 : decode cL_seen 266 = .ok (.goto (-91), 3) := by decide +kernel
theorem dL_seen_269 : decode cL_seen 269 = .ok (.aload_n 1, 1) := by decide +kernel
theorem dL_seen_270 : decode cL_seen 270 = .ok (.areturn, 1) := by decide +kernel
theorem dL_areAlike_0 : decode cL_areAlike 0 = .ok (.iconst 0, 1) := by decide +kernel
theorem dL_areAlike_1 : decode cL_areAlike 1 = .ok (.istore_n 2, 1) := by decide +kernel
theorem dL_areAlike_2 : decode cL_areAlike 2 = .ok (.iload_n 2, 1) := by decide +kernel
theorem dL_areAlike_3 : decode cL_areAlike 3 = .ok (.aload_n 0, 1) := by decide +kernel
theorem dL_areAlike_4 : decode cL_areAlike 4 = .ok (.arraylength, 1) := by decide +kernel
theorem dL_areAlike_5 : decode cL_areAlike 5 = .ok (.if_icmp .ge 20, 3) := by decide +kernel
theorem dL_areAlike_8 : decode cL_areAlike 8 = .ok (.aload_n 0, 1) := by decide +kernel
theorem dL_areAlike_9 : decode cL_areAlike 9 = .ok (.iload_n 2, 1) := by decide +kernel
theorem dL_areAlike_10 : decode cL_areAlike 10 = .ok (.iaload, 1) := by decide +kernel
theorem dL_areAlike_11 : decode cL_areAlike 11 = .ok (.aload_n 1, 1) := by decide +kernel
theorem dL_areAlike_12 : decode cL_areAlike 12 = .ok (.iload_n 2, 1) := by decide +kernel
theorem dL_areAlike_13 : decode cL_areAlike 13 = .ok (.iaload, 1) := by decide +kernel
theorem dL_areAlike_14 : decode cL_areAlike 14 = .ok (.if_icmp .eq 5, 3) := by decide +kernel
theorem dL_areAlike_17 : decode cL_areAlike 17 = .ok (.iconst 0, 1) := by decide +kernel
theorem dL_areAlike_18 : decode cL_areAlike 18 = .ok (.ireturn, 1) := by decide +kernel
theorem dL_areAlike_19 : decode cL_areAlike 19 = .ok (.iinc 2 1, 3) := by decide +kernel
theorem dL_areAlike_22 : decode cL_areAlike 22 = .ok (.goto (-20), 3) := by decide +kernel
theorem dL_areAlike_25 : decode cL_areAlike 25 = .ok (.iconst 1, 1) := by decide +kernel
theorem dL_areAlike_26 : decode cL_areAlike 26 = .ok (.ireturn, 1) := by decide +kernel
theorem dL_limit_0 : decode cL_limit 0 = .ok (.iconst 5, 1) := by decide +kernel
theorem dL_limit_1 : decode cL_limit 1 = .ok (.aload_n 0, 1) := by decide +kernel
theorem dL_limit_2 : decode cL_limit 2 = .ok (.iload_n 1, 1) := by decide +kernel
theorem dL_limit_3 : decode cL_limit 3 = .ok (.invokevirtual 210, 3) := by decide +kernel
theorem dL_limit_6 : decode cL_limit 6 = .ok (.bipush 97, 2) := by decide +kernel
theorem dL_limit_8 : decode cL_limit 8 = .ok (.isub, 1) := by decide +kernel
theorem dL_limit_9 : decode cL_limit 9 = .ok (.iconst 1, 1) := by decide +kernel
theorem dL_limit_10 : decode cL_limit 10 = .ok (.iadd, 1) := by decide +kernel
theorem dL_limit_11 : decode cL_limit 11 = .ok (.imul, 1) := by decide +kernel
theorem dL_limit_12 : decode cL_limit 12 = .ok (.ireturn, 1) := by decide +kernel
theorem dL_distances_0 : decode cL_distances 0 = .ok (.bipush 8, 2) := by decide +kernel
theorem dL_distances_2 : decode cL_distances 2 = .ok (.bipush 8, 2) := by decide +kernel
theorem dL_distances_4 : decode cL_distances 4 = .ok (.multianewarray 236 2, 4) := by decide +kernel
theorem dL_distances_8 : decode cL_distances 8 = .ok (.astore_n 1, 1) := by decide +kernel
theorem dL_distances_9 : decode cL_distances 9 = .ok (.iconst 0, 1) := by decide +kernel
theorem dL_distances_10 : decode cL_distances 10 = .ok (.istore_n 2, 1) := by decide +kernel
theorem dL_distances_11 : decode cL_distances 11 = .ok (.iload_n 2, 1) := by decide +kernel
theorem dL_distances_12 : decode cL_distances 12 = .ok (.bipush 8, 2) := by decide +kernel
theorem dL_distances_14 : decode cL_distances 14 = .ok (.if_icmp .ge 40, 3) := by decide +kernel
theorem dL_distances_17 : decode cL_distances 17 = .ok (.iconst 0, 1) := by decide +kernel
theorem dL_distances_18 : decode cL_distances 18 = .ok (.istore_n 3, 1) := by decide +kernel
theorem dL_distances_19 : decode cL_distances 19 = .ok (.iload_n 3, 1) := by decide +kernel
theorem dL_distances_20 : decode cL_distances 20 = .ok (.bipush 8, 2) := by decide +kernel
theorem dL_distances_22 : decode cL_distances 22 = .ok (.if_icmp .ge 26, 3) := by decide +kernel
theorem dL_distances_25 : decode cL_distances 25 = .ok (.aload_n 1, 1) := by decide +kernel
theorem dL_distances_26 : decode cL_distances 26 = .ok (.iload_n 2, 1) := by decide +kernel
theorem dL_distances_27 : decode cL_distances 27 = .ok (.aaload, 1) := by decide +kernel
theorem dL_distances_28 : decode cL_distances 28 = .ok (.iload_n 3, 1) := by decide +kernel
theorem dL_distances_29 : decode cL_distances 29 = .ok (.iload_n 2, 1) := by decide +kernel
theorem dL_distances_30 : decode cL_distances 30 = .ok (.iload_n 3, 1) := by decide +kernel
theorem dL_distances_31 : decode cL_distances 31 = .ok (.if_icmp .ne 7, 3) := by decide +kernel
theorem dL_distances_34 : decode cL_distances 34 = .ok (.iconst 0, 1) := by decide +kernel
theorem dL_distances_35 : decode cL_distances 35 = .ok (.goto 6, 3) := by decide +kernel
theorem dL_distances_38 : decode cL_distances 38 = .ok (.sipush 9999, 3) := by decide +kernel
theorem dL_distances_41 : decode cL_distances 41 = .ok (.iastore, 1) := by decide +kernel
theorem dL_distances_42 : decode cL_distances 42 = .ok (.iinc 3 1, 3) := by decide +kernel
theorem dL_distances_45 : decode cL_distances 45 = .ok (.goto (-26), 3) := by decide +kernel
theorem dL_distances_48 : decode cL_distances 48 = .ok (.iinc 2 1, 3) := by decide +kernel
theorem dL_distances_51 : decode cL_distances 51 = .ok (.goto (-40), 3) := by decide +kernel
theorem dL_distances_54 : decode cL_distances 54 = .ok (.iconst 0, 1) := by decide +kernel
theorem dL_distances_55 : decode cL_distances 55 = .ok (.istore_n 2, 1) := by decide +kernel
theorem dL_distances_56 : decode cL_distances 56 = .ok (.iload_n 2, 1) := by decide +kernel
theorem dL_distances_57 : decode cL_distances 57 = .ok (.aload_n 0, 1) := by decide +kernel
theorem dL_distances_58 : decode cL_distances 58 = .ok (.invokevirtual 126, 3) := by decide +kernel
theorem dL_distances_61 : decode cL_distances 61 = .ok (.if_icmp .ge 45, 3) := by decide +kernel
theorem dL_distances_64 : decode cL_distances 64 = .ok (.aload_n 1, 1) := by decide +kernel
theorem dL_distances_65 : decode cL_distances 65 = .ok (.aload_n 0, 1) := by decide +kernel
theorem dL_distances_66 : decode cL_distances 66 = .ok (.iload_n 2, 1) := by decide +kernel
theorem dL_distances_67 : decode cL_distances 67 = .ok (.invokevirtual 204, 3) := by decide +kernel
theorem dL_distances_70 : decode cL_distances 70 = .ok (.aaload, 1) := by decide +kernel
theorem dL_distances_71 : decode cL_distances 71 = .ok (.aload_n 0, 1) := by decide +kernel
theorem dL_distances_72 : decode cL_distances 72 = .ok (.iload_n 2, 1) := by decide +kernel
theorem dL_distances_73 : decode cL_distances 73 = .ok (.invokevirtual 207, 3) := by decide +kernel
theorem dL_distances_76 : decode cL_distances 76 = .ok (.aload_n 0, 1) := by decide +kernel
theorem dL_distances_77 : decode cL_distances 77 = .ok (.iload_n 2, 1) := by decide +kernel
theorem dL_distances_78 : decode cL_distances 78 = .ok (.invokevirtual 213, 3) := by decide +kernel
theorem dL_distances_81 : decode cL_distances 81 = .ok (.iastore, 1) := by decide +kernel
theorem dL_distances_82 : decode cL_distances 82 = .ok (.aload_n 1, 1) := by decide +kernel
theorem dL_distances_83 : decode cL_distances 83 = .ok (.aload_n 0, 1) := by decide +kernel
theorem dL_distances_84 : decode cL_distances 84 = .ok (.iload_n 2, 1) := by decide +kernel
theorem dL_distances_85 : decode cL_distances 85 = .ok (.invokevirtual 207, 3) := by decide +kernel
theorem dL_distances_88 : decode cL_distances 88 = .ok (.aaload, 1) := by decide +kernel
theorem dL_distances_89 : decode cL_distances 89 = .ok (.aload_n 0, 1) := by decide +kernel
theorem dL_distances_90 : decode cL_distances 90 = .ok (.iload_n 2, 1) := by decide +kernel
theorem dL_distances_91 : decode cL_distances 91 = .ok (.invokevirtual 204, 3) := by decide +kernel
theorem dL_distances_94 : decode cL_distances 94 = .ok (.aload_n 0, 1) := by decide +kernel
theorem dL_distances_95 : decode cL_distances 95 = .ok (.iload_n 2, 1) := by decide +kernel
theorem dL_distances_96 : decode cL_distances 96 = .ok (.invokevirtual 213, 3) := by decide +kernel
theorem dL_distances_99 : decode cL_distances 99 = .ok (.iastore, 1) := by decide +kernel
theorem dL_distances_100 : decode cL_distances 100 = .ok (.iinc 2 1, 3) := by decide +kernel
theorem dL_distances_103 : decode cL_distances 103 = .ok (.goto (-47), 3) := by decide +kernel
theorem dL_distances_106 : decode cL_distances 106 = .ok (.iconst 0, 1) := by decide +kernel
theorem dL_distances_107 : decode cL_distances 107 = .ok (.istore_n 2, 1) := by decide +kernel
theorem dL_distances_108 : decode cL_distances 108 = .ok (.iload_n 2, 1) := by decide +kernel
theorem dL_distances_109 : decode cL_distances 109 = .ok (.bipush 8, 2) := by decide +kernel
theorem dL_distances_111 : decode cL_distances 111 = .ok (.if_icmp .ge 66, 3) := by decide +kernel
theorem dL_distances_114 : decode cL_distances 114 = .ok (.iconst 0, 1) := by decide +kernel
theorem dL_distances_115 : decode cL_distances 115 = .ok (.istore_n 3, 1) := by decide +kernel
theorem dL_distances_116 : decode cL_distances 116 = .ok (.iload_n 3, 1) := by decide +kernel
theorem dL_distances_117 : decode cL_distances 117 = .ok (.bipush 8, 2) := by decide +kernel
theorem dL_distances_119 : decode cL_distances 119 = .ok (.if_icmp .ge 52, 3) := by decide +kernel
theorem dL_distances_122 : decode cL_distances 122 = .ok (.iconst 0, 1) := by decide +kernel
theorem dL_distances_123 : decode cL_distances 123 = .ok (.istore 4, 2) := by decide +kernel
theorem dL_distances_125 : decode cL_distances 125 = .ok (.iload 4, 2) := by decide +kernel
theorem dL_distances_127 : decode cL_distances 127 = .ok (.bipush 8, 2) := by decide +kernel
theorem dL_distances_129 : decode cL_distances 129 = .ok (.if_icmp .ge 36, 3) := by decide +kernel
theorem dL_distances_132 : decode cL_distances 132 = .ok (.aload_n 1, 1) := by decide +kernel
theorem dL_distances_133 : decode cL_distances 133 = .ok (.iload_n 3, 1) := by decide +kernel
theorem dL_distances_134 : decode cL_distances 134 = .ok (.aaload, 1) := by decide +kernel
theorem dL_distances_135 : decode cL_distances 135 = .ok (.iload 4, 2) := by decide +kernel
theorem dL_distances_137 : decode cL_distances 137 = .ok (.aload_n 1, 1) := by decide +kernel
theorem dL_distances_138 : decode cL_distances 138 = .ok (.iload_n 3, 1) := by decide +kernel
theorem dL_distances_139 : decode cL_distances 139 = .ok (.aaload, 1) := by decide +kernel
theorem dL_distances_140 : decode cL_distances 140 = .ok (.iload 4, 2) := by decide +kernel
theorem dL_distances_142 : decode cL_distances 142 = .ok (.iaload, 1) := by decide +kernel
theorem dL_distances_143 : decode cL_distances 143 = .ok (.aload_n 1, 1) := by decide +kernel
theorem dL_distances_144 : decode cL_distances 144 = .ok (.iload_n 3, 1) := by decide +kernel
theorem dL_distances_145 : decode cL_distances 145 = .ok (.aaload, 1) := by decide +kernel
theorem dL_distances_146 : decode cL_distances 146 = .ok (.iload_n 2, 1) := by decide +kernel
theorem dL_distances_147 : decode cL_distances 147 = .ok (.iaload, 1) := by decide +kernel
theorem dL_distances_148 : decode cL_distances 148 = .ok (.aload_n 1, 1) := by decide +kernel
theorem dL_distances_149 : decode cL_distances 149 = .ok (.iload_n 2, 1) := by decide +kernel
theorem dL_distances_150 : decode cL_distances 150 = .ok (.aaload, 1) := by decide +kernel
theorem dL_distances_151 : decode cL_distances 151 = .ok (.iload 4, 2) := by decide +kernel
theorem dL_distances_153 : decode cL_distances 153 = .ok (.iaload, 1) := by decide +kernel
theorem dL_distances_154 : decode cL_distances 154 = .ok (.iadd, 1) := by decide +kernel
theorem dL_distances_155 : decode cL_distances 155 = .ok (.invokestatic 238, 3) := by decide +kernel
theorem dL_distances_158 : decode cL_distances 158 = .ok (.iastore, 1) := by decide +kernel
theorem dL_distances_159 : decode cL_distances 159 = .ok (.iinc 4 1, 3) := by decide +kernel
theorem dL_distances_162 : decode cL_distances 162 = .ok (.goto (-37), 3) := by decide +kernel
theorem dL_distances_165 : decode cL_distances 165 = .ok (.iinc 3 1, 3) := by decide +kernel
theorem dL_distances_168 : decode cL_distances 168 = .ok (.goto (-52), 3) := by decide +kernel
theorem dL_distances_171 : decode cL_distances 171 = .ok (.iinc 2 1, 3) := by decide +kernel
theorem dL_distances_174 : decode cL_distances 174 = .ok (.goto (-66), 3) := by decide +kernel
theorem dL_distances_177 : decode cL_distances 177 = .ok (.aload_n 1, 1) := by decide +kernel
theorem dL_distances_178 : decode cL_distances 178 = .ok (.areturn, 1) := by decide +kernel
theorem dL_isWell_0 : decode cL_isWell 0 = .ok (.aload_n 0, 1) := by decide +kernel
theorem dL_isWell_1 : decode cL_isWell 1 = .ok (.invokestatic 243, 3) := by decide +kernel
theorem dL_isWell_4 : decode cL_isWell 4 = .ok (.astore_n 1, 1) := by decide +kernel
theorem dL_isWell_5 : decode cL_isWell 5 = .ok (.iconst 0, 1) := by decide +kernel
theorem dL_isWell_6 : decode cL_isWell 6 = .ok (.istore_n 2, 1) := by decide +kernel
theorem dL_isWell_7 : decode cL_isWell 7 = .ok (.iconst 0, 1) := by decide +kernel
theorem dL_isWell_8 : decode cL_isWell 8 = .ok (.istore_n 3, 1) := by decide +kernel
theorem dL_isWell_9 : decode cL_isWell 9 = .ok (.iload_n 3, 1) := by decide +kernel
theorem dL_isWell_10 : decode cL_isWell 10 = .ok (.bipush 8, 2) := by decide +kernel
theorem dL_isWell_12 : decode cL_isWell 12 = .ok (.if_icmp .ge 76, 3) := by decide +kernel
theorem dL_isWell_15 : decode cL_isWell 15 = .ok (.iconst 0, 1) := by decide +kernel
theorem dL_isWell_16 : decode cL_isWell 16 = .ok (.istore 4, 2) := by decide +kernel
theorem dL_isWell_18 : decode cL_isWell 18 = .ok (.iload 4, 2) := by decide +kernel
theorem dL_isWell_20 : decode cL_isWell 20 = .ok (.bipush 8, 2) := by decide +kernel
theorem dL_isWell_22 : decode cL_isWell 22 = .ok (.if_icmp .ge 60, 3) := by decide +kernel
theorem dL_isWell_25 : decode cL_isWell 25 = .ok (.aload_n 1, 1) := by decide +kernel
theorem dL_isWell_26 : decode cL_isWell 26 = .ok (.iload_n 3, 1) := by decide +kernel
theorem dL_isWell_27 : decode cL_isWell 27 = .ok (.aaload, 1) := by decide +kernel
theorem dL_isWell_28 : decode cL_isWell 28 = .ok (.iload 4, 2) := by decide +kernel
theorem dL_isWell_30 : decode cL_isWell 30 = .ok (.iaload, 1) := by decide +kernel
theorem dL_isWell_31 : decode cL_isWell 31 = .ok (.sipush 9999, 3) := by decide +kernel
theorem dL_isWell_34 : decode cL_isWell 34 = .ok (.if_icmp .lt 8, 3) := by decide +kernel
theorem dL_isWell_37 : decode cL_isWell 37 = .ok (.ldc 20, 2) := by decide +kernel
theorem dL_isWell_39 : decode cL_isWell 39 = .ok (.goto 9, 3) := by decide +kernel
theorem dL_isWell_42 : decode cL_isWell 42 = .ok (.aload_n 1, 1) := by decide +kernel
theorem dL_isWell_43 : decode cL_isWell 43 = .ok (.iload_n 3, 1) := by decide +kernel
theorem dL_isWell_44 : decode cL_isWell 44 = .ok (.aaload, 1) := by decide +kernel
theorem dL_isWell_45 : decode cL_isWell 45 = .ok (.iload 4, 2) := by decide +kernel
theorem dL_isWell_47 : decode cL_isWell 47 = .ok (.iaload, 1) := by decide +kernel
theorem dL_isWell_48 : decode cL_isWell 48 = .ok (.istore 5, 2) := by decide +kernel
theorem dL_isWell_50 : decode cL_isWell 50 = .ok (.aload_n 0, 1) := by decide +kernel
theorem dL_isWell_51 : decode cL_isWell 51 = .ok (.iload_n 3, 1) := by decide +kernel
theorem dL_isWell_52 : decode cL_isWell 52 = .ok (.iload 4, 2) := by decide +kernel
theorem dL_isWell_54 : decode cL_isWell 54 = .ok (.invokestatic 247, 3) := by decide +kernel
theorem dL_isWell_57 : decode cL_isWell 57 = .ok (.iload 5, 2) := by decide +kernel
theorem dL_isWell_59 : decode cL_isWell 59 = .ok (.if_icmp .ne 15, 3) := by decide +kernel
theorem dL_isWell_62 : decode cL_isWell 62 = .ok (.aload_n 0, 1) := by decide +kernel
theorem dL_isWell_63 : decode cL_isWell 63 = .ok (.iload_n 3, 1) := by decide +kernel
theorem dL_isWell_64 : decode cL_isWell 64 = .ok (.iload 4, 2) := by decide +kernel
theorem dL_isWell_66 : decode cL_isWell 66 = .ok (.invokestatic 249, 3) := by decide +kernel
theorem dL_isWell_69 : decode cL_isWell 69 = .ok (.iload 5, 2) := by decide +kernel
theorem dL_isWell_71 : decode cL_isWell 71 = .ok (.if_icmp .eq 5, 3) := by decide +kernel
theorem dL_isWell_74 : decode cL_isWell 74 = .ok (.iconst 0, 1) := by decide +kernel
theorem dL_isWell_75 : decode cL_isWell 75 = .ok (.ireturn, 1) := by decide +kernel
theorem dL_isWell_76 : decode cL_isWell 76 = .ok (.iinc 4 1, 3) := by decide +kernel
theorem dL_isWell_79 : decode cL_isWell 79 = .ok (.goto (-61), 3) := by decide +kernel
theorem dL_isWell_82 : decode cL_isWell 82 = .ok (.iinc 3 1, 3) := by decide +kernel
theorem dL_isWell_85 : decode cL_isWell 85 = .ok (.goto (-76), 3) := by decide +kernel
theorem dL_isWell_88 : decode cL_isWell 88 = .ok (.iconst 0, 1) := by decide +kernel
theorem dL_isWell_89 : decode cL_isWell 89 = .ok (.istore_n 3, 1) := by decide +kernel
theorem dL_isWell_90 : decode cL_isWell 90 = .ok (.iload_n 3, 1) := by decide +kernel
theorem dL_isWell_91 : decode cL_isWell 91 = .ok (.aload_n 0, 1) := by decide +kernel
theorem dL_isWell_92 : decode cL_isWell 92 = .ok (.invokevirtual 126, 3) := by decide +kernel
theorem dL_isWell_95 : decode cL_isWell 95 = .ok (.if_icmp .ge 124, 3) := by decide +kernel
theorem dL_isWell_98 : decode cL_isWell 98 = .ok (.aload_n 0, 1) := by decide +kernel
theorem dL_isWell_99 : decode cL_isWell 99 = .ok (.iload_n 3, 1) := by decide +kernel
theorem dL_isWell_100 : decode cL_isWell 100 = .ok (.invokestatic 218, 3) := by decide +kernel
theorem dL_isWell_103 : decode cL_isWell 103 = .ok (.istore 4, 2) := by decide +kernel
theorem dL_isWell_105 : decode cL_isWell 105 = .ok (.iload_n 2, 1) := by decide +kernel
theorem dL_isWell_106 : decode cL_isWell 106 = .ok (.aload_n 0, 1) := by decide +kernel
theorem dL_isWell_107 : decode cL_isWell 107 = .ok (.iload_n 3, 1) := by decide +kernel
theorem dL_isWell_108 : decode cL_isWell 108 = .ok (.invokevirtual 220, 3) := by decide +kernel
theorem dL_isWell_111 : decode cL_isWell 111 = .ok (.iadd, 1) := by decide +kernel
theorem dL_isWell_112 : decode cL_isWell 112 = .ok (.istore_n 2, 1) := by decide +kernel
theorem dL_isWell_113 : decode cL_isWell 113 = .ok (.aload_n 0, 1) := by decide +kernel
theorem dL_isWell_114 : decode cL_isWell 114 = .ok (.iload_n 3, 1) := by decide +kernel
theorem dL_isWell_115 : decode cL_isWell 115 = .ok (.invokevirtual 204, 3) := by decide +kernel
theorem dL_isWell_118 : decode cL_isWell 118 = .ok (.aload_n 0, 1) := by decide +kernel
theorem dL_isWell_119 : decode cL_isWell 119 = .ok (.iload_n 3, 1) := by decide +kernel
theorem dL_isWell_120 : decode cL_isWell 120 = .ok (.invokevirtual 207, 3) := by decide +kernel
theorem dL_isWell_123 : decode cL_isWell 123 = .ok (.if_icmp .ge 88, 3) := by decide +kernel
theorem dL_isWell_126 : decode cL_isWell 126 = .ok (.aload_n 0, 1) := by decide +kernel
theorem dL_isWell_127 : decode cL_isWell 127 = .ok (.iload_n 3, 1) := by decide +kernel
theorem dL_isWell_128 : decode cL_isWell 128 = .ok (.invokevirtual 215, 3) := by decide +kernel
theorem dL_isWell_131 : decode cL_isWell 131 = .ok (.ifCond .lt 80, 3) := by decide +kernel
theorem dL_isWell_134 : decode cL_isWell 134 = .ok (.aload_n 0, 1) := by decide +kernel
theorem dL_isWell_135 : decode cL_isWell 135 = .ok (.iload_n 3, 1) := by decide +kernel
theorem dL_isWell_136 : decode cL_isWell 136 = .ok (.invokevirtual 215, 3) := by decide +kernel
theorem dL_isWell_139 : decode cL_isWell 139 = .ok (.sipush 200, 3) := by decide +kernel
theorem dL_isWell_142 : decode cL_isWell 142 = .ok (.if_icmp .gt 69, 3) := by decide +kernel
theorem dL_isWell_145 : decode cL_isWell 145 = .ok (.aload_n 0, 1) := by decide +kernel
theorem dL_isWell_146 : decode cL_isWell 146 = .ok (.iload_n 3, 1) := by decide +kernel
theorem dL_isWell_147 : decode cL_isWell 147 = .ok (.invokevirtual 251, 3) := by decide +kernel
theorem dL_isWell_150 : decode cL_isWell 150 = .ok (.aload_n 0, 1) := by decide +kernel
theorem dL_isWell_151 : decode cL_isWell 151 = .ok (.iload_n 3, 1) := by decide +kernel
theorem dL_isWell_152 : decode cL_isWell 152 = .ok (.invokevirtual 215, 3) := by decide +kernel
theorem dL_isWell_155 : decode cL_isWell 155 = .ok (.aload_n 0, 1) := by decide +kernel
theorem dL_isWell_156 : decode cL_isWell 156 = .ok (.iload_n 3, 1) := by decide +kernel
theorem dL_isWell_157 : decode cL_isWell 157 = .ok (.invokestatic 255, 3) := by decide +kernel
theorem dL_isWell_160 : decode cL_isWell 160 = .ok (.if_icmp .le 7, 3) := by decide +kernel
theorem dL_isWell_163 : decode cL_isWell 163 = .ok (.iconst 1, 1) := by decide +kernel
theorem dL_isWell_164 : decode cL_isWell 164 = .ok (.goto 4, 3) := by decide +kernel
theorem dL_isWell_167 : decode cL_isWell 167 = .ok (.iconst 0, 1) := by decide +kernel
theorem dL_isWell_168 : decode cL_isWell 168 = .ok (.if_icmp .ne 43, 3) := by decide +kernel
theorem dL_isWell_171 : decode cL_isWell 171 = .ok (.aload_n 0, 1) := by decide +kernel
theorem dL_isWell_172 : decode cL_isWell 172 = .ok (.iload_n 3, 1) := by decide +kernel
theorem dL_isWell_173 : decode cL_isWell 173 = .ok (.invokevirtual 258, 3) := by decide +kernel
theorem dL_isWell_176 : decode cL_isWell 176 = .ok (.iload 4, 2) := by decide +kernel
theorem dL_isWell_178 : decode cL_isWell 178 = .ok (.ifCond .le 7, 3) := by decide +kernel
theorem dL_isWell_181 : decode cL_isWell 181 = .ok (.iconst 1, 1) := by decide +kernel
theorem dL_isWell_182 : decode cL_isWell 182 = .ok (.goto 4, 3) := by decide +kernel
theorem dL_isWell_185 : decode cL_isWell 185 = .ok (.iconst 0, 1) := by decide +kernel
theorem dL_isWell_186 : decode cL_isWell 186 = .ok (.if_icmp .ne 25, 3) := by decide +kernel
theorem dL_isWell_189 : decode cL_isWell 189 = .ok (.iload 4, 2) := by decide +kernel
theorem dL_isWell_191 : decode cL_isWell 191 = .ok (.sipush 240, 3) := by decide +kernel
theorem dL_isWell_194 : decode cL_isWell 194 = .ok (.if_icmp .gt 17, 3) := by decide +kernel
theorem dL_isWell_197 : decode cL_isWell 197 = .ok (.aload_n 0, 1) := by decide +kernel
theorem dL_isWell_198 : decode cL_isWell 198 = .ok (.iload_n 3, 1) := by decide +kernel
theorem dL_isWell_199 : decode cL_isWell 199 = .ok (.iconst 0, 1) := by decide +kernel
theorem dL_isWell_200 : decode cL_isWell 200 = .ok (.invokestatic 261, 3) := by decide +kernel
theorem dL_isWell_203 : decode cL_isWell 203 = .ok (.aload_n 0, 1) := by decide +kernel
theorem dL_isWell_204 : decode cL_isWell 204 = .ok (.iload_n 3, 1) := by decide +kernel
theorem dL_isWell_205 : decode cL_isWell 205 = .ok (.invokevirtual 215, 3) := by decide +kernel
theorem dL_isWell_208 : decode cL_isWell 208 = .ok (.if_icmp .eq 5, 3) := by decide +kernel
theorem dL_isWell_211 : decode cL_isWell 211 = .ok (.iconst 0, 1) := by decide +kernel
theorem dL_isWell_212 : decode cL_isWell 212 = .ok (.ireturn, 1) := by decide +kernel
theorem dL_isWell_213 : decode cL_isWell 213 = .ok (.iinc 3 1, 3) := by decide +kernel
theorem dL_isWell_216 : decode cL_isWell 216 = .ok (.goto (-126), 3) := by decide +kernel
theorem dL_isWell_219 : decode cL_isWell 219 = .ok (.iconst 0, 1) := by decide +kernel
theorem dL_isWell_220 : decode cL_isWell 220 = .ok (.istore_n 3, 1) := by decide +kernel
theorem dL_isWell_221 : decode cL_isWell 221 = .ok (.iload_n 3, 1) := by decide +kernel
theorem dL_isWell_222 : decode cL_isWell 222 = .ok (.aload_n 0, 1) := by decide +kernel
theorem dL_isWell_223 : decode cL_isWell 223 = .ok (.invokevirtual 180, 3) := by decide +kernel
theorem dL_isWell_226 : decode cL_isWell 226 = .ok (.if_icmp .ge 189, 3) := by decide +kernel
theorem dL_isWell_229 : decode cL_isWell 229 = .ok (.aload_n 0, 1) := by decide +kernel
theorem dL_isWell_230 : decode cL_isWell 230 = .ok (.iload_n 3, 1) := by decide +kernel
theorem dL_isWell_231 : decode cL_isWell 231 = .ok (.invokevirtual 263, 3) := by decide +kernel
theorem dL_isWell_234 : decode cL_isWell 234 = .ok (.istore 4, 2) := by decide +kernel
theorem dL_isWell_236 : decode cL_isWell 236 = .ok (.aload_n 0, 1) := by decide +kernel
theorem dL_isWell_237 : decode cL_isWell 237 = .ok (.iload_n 3, 1) := by decide +kernel
theorem dL_isWell_238 : decode cL_isWell 238 = .ok (.invokestatic 229, 3) := by decide +kernel
theorem dL_isWell_241 : decode cL_isWell 241 = .ok (.istore 5, 2) := by decide +kernel
theorem dL_isWell_243 : decode cL_isWell 243 = .ok (.iload 4, 2) := by decide +kernel
theorem dL_isWell_245 : decode cL_isWell 245 = .ok (.aload_n 0, 1) := by decide +kernel
theorem dL_isWell_246 : decode cL_isWell 246 = .ok (.iload_n 3, 1) := by decide +kernel
theorem dL_isWell_247 : decode cL_isWell 247 = .ok (.invokevirtual 226, 3) := by decide +kernel
theorem dL_isWell_250 : decode cL_isWell 250 = .ok (.ifCond .le 7, 3) := by decide +kernel
theorem dL_isWell_253 : decode cL_isWell 253 = .ok (.iconst 1, 1) := by decide +kernel
theorem dL_isWell_254 : decode cL_isWell 254 = .ok (.goto 4, 3) := by decide +kernel
theorem dL_isWell_257 : decode cL_isWell 257 = .ok (.iconst 0, 1) := by decide +kernel
theorem dL_isWell_258 : decode cL_isWell 258 = .ok (.if_icmp .ne 60, 3) := by decide +kernel
theorem dL_isWell_261 : decode cL_isWell 261 = .ok (.iload 4, 2) := by decide +kernel
theorem dL_isWell_263 : decode cL_isWell 263 = .ok (.iload 5, 2) := by decide +kernel
theorem dL_isWell_265 : decode cL_isWell 265 = .ok (.ifCond .lt 7, 3) := by decide +kernel
theorem dL_isWell_268 : decode cL_isWell 268 = .ok (.iconst 1, 1) := by decide +kernel
theorem dL_isWell_269 : decode cL_isWell 269 = .ok (.goto 4, 3) := by decide +kernel
theorem dL_isWell_272 : decode cL_isWell 272 = .ok (.iconst 0, 1) := by decide +kernel
theorem dL_isWell_273 : decode cL_isWell 273 = .ok (.if_icmp .ne 45, 3) := by decide +kernel
theorem dL_isWell_276 : decode cL_isWell 276 = .ok (.aload_n 0, 1) := by decide +kernel
theorem dL_isWell_277 : decode cL_isWell 277 = .ok (.iload_n 3, 1) := by decide +kernel
theorem dL_isWell_278 : decode cL_isWell 278 = .ok (.invokevirtual 231, 3) := by decide +kernel
theorem dL_isWell_281 : decode cL_isWell 281 = .ok (.iconst 5, 1) := by decide +kernel
theorem dL_isWell_282 : decode cL_isWell 282 = .ok (.if_icmp .gt 36, 3) := by decide +kernel
theorem dL_isWell_285 : decode cL_isWell 285 = .ok (.iload 4, 2) := by decide +kernel
theorem dL_isWell_287 : decode cL_isWell 287 = .ok (.ifCond .eq 33, 3) := by decide +kernel
theorem dL_isWell_290 : decode cL_isWell 290 = .ok (.aload_n 0, 1) := by decide +kernel
theorem dL_isWell_291 : decode cL_isWell 291 = .ok (.iload_n 3, 1) := by decide +kernel
theorem dL_isWell_292 : decode cL_isWell 292 = .ok (.invokevirtual 223, 3) := by decide +kernel
theorem dL_isWell_295 : decode cL_isWell 295 = .ok (.aload_n 0, 1) := by decide +kernel
theorem dL_isWell_296 : decode cL_isWell 296 = .ok (.iload 5, 2) := by decide +kernel
theorem dL_isWell_298 : decode cL_isWell 298 = .ok (.invokevirtual 204, 3) := by decide +kernel
theorem dL_isWell_301 : decode cL_isWell 301 = .ok (.if_icmp .eq 19, 3) := by decide +kernel
theorem dL_isWell_304 : decode cL_isWell 304 = .ok (.aload_n 0, 1) := by decide +kernel
theorem dL_isWell_305 : decode cL_isWell 305 = .ok (.iload_n 3, 1) := by decide +kernel
theorem dL_isWell_306 : decode cL_isWell 306 = .ok (.invokevirtual 223, 3) := by decide +kernel
theorem dL_isWell_309 : decode cL_isWell 309 = .ok (.aload_n 0, 1) := by decide +kernel
theorem dL_isWell_310 : decode cL_isWell 310 = .ok (.iload 5, 2) := by decide +kernel
theorem dL_isWell_312 : decode cL_isWell 312 = .ok (.invokevirtual 207, 3) := by decide +kernel
theorem dL_isWell_315 : decode cL_isWell 315 = .ok (.if_icmp .eq 5, 3) := by decide +kernel
theorem dL_isWell_318 : decode cL_isWell 318 = .ok (.iconst 0, 1) := by decide +kernel
theorem dL_isWell_319 : decode cL_isWell 319 = .ok (.ireturn, 1) := by decide +kernel
theorem dL_isWell_320 : decode cL_isWell 320 = .ok (.iconst 0, 1) := by decide +kernel
theorem dL_isWell_321 : decode cL_isWell 321 = .ok (.istore 6, 2) := by decide +kernel
theorem dL_isWell_323 : decode cL_isWell 323 = .ok (.iload 6, 2) := by decide +kernel
theorem dL_isWell_325 : decode cL_isWell 325 = .ok (.aload_n 0, 1) := by decide +kernel
theorem dL_isWell_326 : decode cL_isWell 326 = .ok (.invokevirtual 126, 3) := by decide +kernel
theorem dL_isWell_329 : decode cL_isWell 329 = .ok (.if_icmp .ge 80, 3) := by decide +kernel
theorem dL_isWell_332 : decode cL_isWell 332 = .ok (.aload_n 1, 1) := by decide +kernel
theorem dL_isWell_333 : decode cL_isWell 333 = .ok (.aload_n 0, 1) := by decide +kernel
theorem dL_isWell_334 : decode cL_isWell 334 = .ok (.iload_n 3, 1) := by decide +kernel
theorem dL_isWell_335 : decode cL_isWell 335 = .ok (.invokevirtual 223, 3) := by decide +kernel
theorem dL_isWell_338 : decode cL_isWell 338 = .ok (.aaload, 1) := by decide +kernel
theorem dL_isWell_339 : decode cL_isWell 339 = .ok (.aload_n 0, 1) := by decide +kernel
theorem dL_isWell_340 : decode cL_isWell 340 = .ok (.iload 6, 2) := by decide +kernel
theorem dL_isWell_342 : decode cL_isWell 342 = .ok (.invokevirtual 204, 3) := by decide +kernel
theorem dL_isWell_345 : decode cL_isWell 345 = .ok (.iaload, 1) := by decide +kernel
theorem dL_isWell_346 : decode cL_isWell 346 = .ok (.aload_n 1, 1) := by decide +kernel
theorem dL_isWell_347 : decode cL_isWell 347 = .ok (.aload_n 0, 1) := by decide +kernel
theorem dL_isWell_348 : decode cL_isWell 348 = .ok (.iload_n 3, 1) := by decide +kernel
theorem dL_isWell_349 : decode cL_isWell 349 = .ok (.invokevirtual 223, 3) := by decide +kernel
theorem dL_isWell_352 : decode cL_isWell 352 = .ok (.aaload, 1) := by decide +kernel
theorem dL_isWell_353 : decode cL_isWell 353 = .ok (.aload_n 0, 1) := by decide +kernel
theorem dL_isWell_354 : decode cL_isWell 354 = .ok (.iload 6, 2) := by decide +kernel
theorem dL_isWell_356 : decode cL_isWell 356 = .ok (.invokevirtual 207, 3) := by decide +kernel
theorem dL_isWell_359 : decode cL_isWell 359 = .ok (.iaload, 1) := by decide +kernel
theorem dL_isWell_360 : decode cL_isWell 360 = .ok (.invokestatic 238, 3) := by decide +kernel
theorem dL_isWell_363 : decode cL_isWell 363 = .ok (.istore 7, 2) := by decide +kernel
theorem dL_isWell_365 : decode cL_isWell 365 = .ok (.aload_n 0, 1) := by decide +kernel
theorem dL_isWell_366 : decode cL_isWell 366 = .ok (.iload_n 3, 1) := by decide +kernel
theorem dL_isWell_367 : decode cL_isWell 367 = .ok (.iload 6, 2) := by decide +kernel
theorem dL_isWell_369 : decode cL_isWell 369 = .ok (.invokestatic 266, 3) := by decide +kernel
theorem dL_isWell_372 : decode cL_isWell 372 = .ok (.iload 7, 2) := by decide +kernel
theorem dL_isWell_374 : decode cL_isWell 374 = .ok (.sipush 9999, 3) := by decide +kernel
theorem dL_isWell_377 : decode cL_isWell 377 = .ok (.if_icmp .lt 8, 3) := by decide +kernel
theorem dL_isWell_380 : decode cL_isWell 380 = .ok (.ldc 20, 2) := by decide +kernel
theorem dL_isWell_382 : decode cL_isWell 382 = .ok (.goto 16, 3) := by decide +kernel
theorem dL_isWell_385 : decode cL_isWell 385 = .ok (.iconst 2, 1) := by decide +kernel
theorem dL_isWell_386 : decode cL_isWell 386 = .ok (.iload 7, 2) := by decide +kernel
theorem dL_isWell_388 : decode cL_isWell 388 = .ok (.imul, 1) := by decide +kernel
theorem dL_isWell_389 : decode cL_isWell 389 = .ok (.iconst 4, 1) := by decide +kernel
theorem dL_isWell_390 : decode cL_isWell 390 = .ok (.aload_n 0, 1) := by decide +kernel
theorem dL_isWell_391 : decode cL_isWell 391 = .ok (.iload 6, 2) := by decide +kernel
theorem dL_isWell_393 : decode cL_isWell 393 = .ok (.invokevirtual 213, 3) := by decide +kernel
theorem dL_isWell_396 : decode cL_isWell 396 = .ok (.imul, 1) := by decide +kernel
theorem dL_isWell_397 : decode cL_isWell 397 = .ok (.iadd, 1) := by decide +kernel
theorem dL_isWell_398 : decode cL_isWell 398 = .ok (.if_icmp .eq 5, 3) := by decide +kernel
theorem dL_isWell_401 : decode cL_isWell 401 = .ok (.iconst 0, 1) := by decide +kernel
theorem dL_isWell_402 : decode cL_isWell 402 = .ok (.ireturn, 1) := by decide +kernel
theorem dL_isWell_403 : decode cL_isWell 403 = .ok (.iinc 6 1, 3) := by decide +kernel
theorem dL_isWell_406 : decode cL_isWell 406 = .ok (.goto (-83), 3) := by decide +kernel
theorem dL_isWell_409 : decode cL_isWell 409 = .ok (.iinc 3 1, 3) := by decide +kernel
theorem dL_isWell_412 : decode cL_isWell 412 = .ok (.goto (-191), 3) := by decide +kernel
theorem dL_isWell_415 : decode cL_isWell 415 = .ok (.iload_n 2, 1) := by decide +kernel
theorem dL_isWell_416 : decode cL_isWell 416 = .ok (.aload_n 0, 1) := by decide +kernel
theorem dL_isWell_417 : decode cL_isWell 417 = .ok (.invokevirtual 201, 3) := by decide +kernel
theorem dL_isWell_420 : decode cL_isWell 420 = .ok (.if_icmp .ne 31, 3) := by decide +kernel
theorem dL_isWell_423 : decode cL_isWell 423 = .ok (.aload_n 0, 1) := by decide +kernel
theorem dL_isWell_424 : decode cL_isWell 424 = .ok (.invokevirtual 183, 3) := by decide +kernel
theorem dL_isWell_427 : decode cL_isWell 427 = .ok (.ifCond .lt 24, 3) := by decide +kernel
theorem dL_isWell_430 : decode cL_isWell 430 = .ok (.aload_n 0, 1) := by decide +kernel
theorem dL_isWell_431 : decode cL_isWell 431 = .ok (.invokevirtual 183, 3) := by decide +kernel
theorem dL_isWell_434 : decode cL_isWell 434 = .ok (.sipush 500, 3) := by decide +kernel
theorem dL_isWell_437 : decode cL_isWell 437 = .ok (.if_icmp .gt 14, 3) := by decide +kernel
theorem dL_isWell_440 : decode cL_isWell 440 = .ok (.aload_n 0, 1) := by decide +kernel
theorem dL_isWell_441 : decode cL_isWell 441 = .ok (.invokevirtual 268, 3) := by decide +kernel
theorem dL_isWell_444 : decode cL_isWell 444 = .ok (.ifCond .eq 7, 3) := by decide +kernel
theorem dL_isWell_447 : decode cL_isWell 447 = .ok (.iconst 1, 1) := by decide +kernel
theorem dL_isWell_448 : decode cL_isWell 448 = .ok (.goto 4, 3) := by decide +kernel
theorem dL_isWell_451 : decode cL_isWell 451 = .ok (.iconst 0, 1) := by decide +kernel
theorem dL_isWell_452 : decode cL_isWell 452 = .ok (.ireturn, 1) := by decide +kernel
theorem dL_law_0 : decode cL_law 0 = .ok (.aload_n 0, 1) := by decide +kernel
theorem dL_law_1 : decode cL_law 1 = .ok (.invokestatic 272, 3) := by decide +kernel
theorem dL_law_4 : decode cL_law 4 = .ok (.astore_n 1, 1) := by decide +kernel
theorem dL_law_5 : decode cL_law 5 = .ok (.aload_n 1, 1) := by decide +kernel
theorem dL_law_6 : decode cL_law 6 = .ok (.ifnull 10, 3) := by decide +kernel
theorem dL_law_9 : decode cL_law 9 = .ok (.aload_n 1, 1) := by decide +kernel
theorem dL_law_10 : decode cL_law 10 = .ok (.invokestatic 276, 3) := by decide +kernel
theorem dL_law_13 : decode cL_law 13 = .ok (.ifCond .ne 5, 3) := by decide +kernel
theorem dL_law_16 : decode cL_law 16 = .ok (.iconst 0, 1) := by decide +kernel
theorem dL_law_17 : decode cL_law 17 = .ok (.ireturn, 1) := by decide +kernel
theorem dL_law_18 : decode cL_law 18 = .ok (.iconst 0, 1) := by decide +kernel
theorem dL_law_19 : decode cL_law 19 = .ok (.istore_n 2, 1) := by decide +kernel
theorem dL_law_20 : decode cL_law 20 = .ok (.iload_n 2, 1) := by decide +kernel
theorem dL_law_21 : decode cL_law 21 = .ok (.bipush 8, 2) := by decide +kernel
theorem dL_law_23 : decode cL_law 23 = .ok (.if_icmp .ge 102, 3) := by decide +kernel
theorem dL_law_26 : decode cL_law 26 = .ok (.aload_n 1, 1) := by decide +kernel
theorem dL_law_27 : decode cL_law 27 = .ok (.invokestatic 280, 3) := by decide +kernel
theorem dL_law_30 : decode cL_law 30 = .ok (.astore_n 3, 1) := by decide +kernel
theorem dL_law_31 : decode cL_law 31 = .ok (.aload_n 1, 1) := by decide +kernel
theorem dL_law_32 : decode cL_law 32 = .ok (.aload_n 0, 1) := by decide +kernel
theorem dL_law_33 : decode cL_law 33 = .ok (.bipush 54, 2) := by decide +kernel
theorem dL_law_35 : decode cL_law 35 = .ok (.iconst 4, 1) := by decide +kernel
theorem dL_law_36 : decode cL_law 36 = .ok (.iload_n 2, 1) := by decide +kernel
theorem dL_law_37 : decode cL_law 37 = .ok (.imul, 1) := by decide +kernel
theorem dL_law_38 : decode cL_law 38 = .ok (.iadd, 1) := by decide +kernel
theorem dL_law_39 : decode cL_law 39 = .ok (.invokestatic 284, 3) := by decide +kernel
theorem dL_law_42 : decode cL_law 42 = .ok (.istore 4, 2) := by decide +kernel
theorem dL_law_44 : decode cL_law 44 = .ok (.aload_n 1, 1) := by decide +kernel
theorem dL_law_45 : decode cL_law 45 = .ok (.invokestatic 276, 3) := by decide +kernel
theorem dL_law_48 : decode cL_law 48 = .ok (.ifCond .eq 29, 3) := by decide +kernel
theorem dL_law_51 : decode cL_law 51 = .ok (.iload 4, 2) := by decide +kernel
theorem dL_law_53 : decode cL_law 53 = .ok (.ldc 111, 2) := by decide +kernel
theorem dL_law_55 : decode cL_law 55 = .ok (.if_icmp .eq 22, 3) := by decide +kernel
theorem dL_law_58 : decode cL_law 58 = .ok (.iload 4, 2) := by decide +kernel
theorem dL_law_60 : decode cL_law 60 = .ok (.ldc_w 288, 3) := by decide +kernel
theorem dL_law_63 : decode cL_law 63 = .ok (.if_icmp .gt 16, 3) := by decide +kernel
theorem dL_law_66 : decode cL_law 66 = .ok (.aload_n 3, 1) := by decide +kernel
theorem dL_law_67 : decode cL_law 67 = .ok (.aload_n 1, 1) := by decide +kernel
theorem dL_law_68 : decode cL_law 68 = .ok (.invokestatic 280, 3) := by decide +kernel
theorem dL_law_71 : decode cL_law 71 = .ok (.invokestatic 289, 3) := by decide +kernel
theorem dL_law_74 : decode cL_law 74 = .ok (.ifCond .ne 5, 3) := by decide +kernel
theorem dL_law_77 : decode cL_law 77 = .ok (.iconst 0, 1) := by decide +kernel
theorem dL_law_78 : decode cL_law 78 = .ok (.ireturn, 1) := by decide +kernel
theorem dL_law_79 : decode cL_law 79 = .ok (.iload 4, 2) := by decide +kernel
theorem dL_law_81 : decode cL_law 81 = .ok (.ldc_w 288, 3) := by decide +kernel
theorem dL_law_84 : decode cL_law 84 = .ok (.if_icmp .le 35, 3) := by decide +kernel
theorem dL_law_87 : decode cL_law 87 = .ok (.aload_n 0, 1) := by decide +kernel
theorem dL_law_88 : decode cL_law 88 = .ok (.bipush 87, 2) := by decide +kernel
theorem dL_law_90 : decode cL_law 90 = .ok (.iload_n 2, 1) := by decide +kernel
theorem dL_law_91 : decode cL_law 91 = .ok (.iadd, 1) := by decide +kernel
theorem dL_law_92 : decode cL_law 92 = .ok (.iconst 5, 1) := by decide +kernel
theorem dL_law_93 : decode cL_law 93 = .ok (.invokestatic 116, 3) := by decide +kernel
theorem dL_law_96 : decode cL_law 96 = .ok (.ifCond .ne 23, 3) := by decide +kernel
theorem dL_law_99 : decode cL_law 99 = .ok (.aload_n 1, 1) := by decide +kernel
theorem dL_law_100 : decode cL_law 100 = .ok (.invokestatic 293, 3) := by decide +kernel
theorem dL_law_103 : decode cL_law 103 = .ok (.ifCond .lt 14, 3) := by decide +kernel
theorem dL_law_106 : decode cL_law 106 = .ok (.aload_n 3, 1) := by decide +kernel
theorem dL_law_107 : decode cL_law 107 = .ok (.aload_n 1, 1) := by decide +kernel
theorem dL_law_108 : decode cL_law 108 = .ok (.invokestatic 280, 3) := by decide +kernel
theorem dL_law_111 : decode cL_law 111 = .ok (.invokestatic 289, 3) := by decide +kernel
theorem dL_law_114 : decode cL_law 114 = .ok (.ifCond .ne 5, 3) := by decide +kernel
theorem dL_law_117 : decode cL_law 117 = .ok (.iconst 0, 1) := by decide +kernel
theorem dL_law_118 : decode cL_law 118 = .ok (.ireturn, 1) := by decide +kernel
theorem dL_law_119 : decode cL_law 119 = .ok (.iinc 2 1, 3) := by decide +kernel
theorem dL_law_122 : decode cL_law 122 = .ok (.goto (-102), 3) := by decide +kernel
theorem dL_law_125 : decode cL_law 125 = .ok (.aload_n 1, 1) := by decide +kernel
theorem dL_law_126 : decode cL_law 126 = .ok (.invokestatic 280, 3) := by decide +kernel
theorem dL_law_129 : decode cL_law 129 = .ok (.astore_n 2, 1) := by decide +kernel
theorem dL_law_130 : decode cL_law 130 = .ok (.aload_n 1, 1) := by decide +kernel
theorem dL_law_131 : decode cL_law 131 = .ok (.invokevirtual 295, 3) := by decide +kernel
theorem dL_law_134 : decode cL_law 134 = .ok (.istore_n 3, 1) := by decide +kernel
theorem dL_law_135 : decode cL_law 135 = .ok (.aload_n 1, 1) := by decide +kernel
theorem dL_law_136 : decode cL_law 136 = .ok (.iconst 0, 1) := by decide +kernel
theorem dL_law_137 : decode cL_law 137 = .ok (.invokestatic 298, 3) := by decide +kernel
theorem dL_law_140 : decode cL_law 140 = .ok (.aload_n 1, 1) := by decide +kernel
theorem dL_law_141 : decode cL_law 141 = .ok (.iconst 0, 1) := by decide +kernel
theorem dL_law_142 : decode cL_law 142 = .ok (.sipush 130, 3) := by decide +kernel
theorem dL_law_145 : decode cL_law 145 = .ok (.invokestatic 261, 3) := by decide +kernel
theorem dL_law_148 : decode cL_law 148 = .ok (.iadd, 1) := by decide +kernel
theorem dL_law_149 : decode cL_law 149 = .ok (.aload_n 1, 1) := by decide +kernel
theorem dL_law_150 : decode cL_law 150 = .ok (.iconst 0, 1) := by decide +kernel
theorem dL_law_151 : decode cL_law 151 = .ok (.invokestatic 300, 3) := by decide +kernel
theorem dL_law_154 : decode cL_law 154 = .ok (.iadd, 1) := by decide +kernel
theorem dL_law_155 : decode cL_law 155 = .ok (.aload_n 1, 1) := by decide +kernel
theorem dL_law_156 : decode cL_law 156 = .ok (.iconst 0, 1) := by decide +kernel
theorem dL_law_157 : decode cL_law 157 = .ok (.invokevirtual 302, 3) := by decide +kernel
theorem dL_law_160 : decode cL_law 160 = .ok (.iadd, 1) := by decide +kernel
theorem dL_law_161 : decode cL_law 161 = .ok (.aload_n 1, 1) := by decide +kernel
theorem dL_law_162 : decode cL_law 162 = .ok (.iconst 0, 1) := by decide +kernel
theorem dL_law_163 : decode cL_law 163 = .ok (.invokevirtual 305, 3) := by decide +kernel
theorem dL_law_166 : decode cL_law 166 = .ok (.iadd, 1) := by decide +kernel
theorem dL_law_167 : decode cL_law 167 = .ok (.istore 4, 2) := by decide +kernel
theorem dL_law_169 : decode cL_law 169 = .ok (.aload_n 2, 1) := by decide +kernel
theorem dL_law_170 : decode cL_law 170 = .ok (.aload_n 1, 1) := by decide +kernel
theorem dL_law_171 : decode cL_law 171 = .ok (.invokestatic 280, 3) := by decide +kernel
theorem dL_law_174 : decode cL_law 174 = .ok (.invokestatic 289, 3) := by decide +kernel
theorem dL_law_177 : decode cL_law 177 = .ok (.ifCond .ne 5, 3) := by decide +kernel
theorem dL_law_180 : decode cL_law 180 = .ok (.iconst 0, 1) := by decide +kernel
theorem dL_law_181 : decode cL_law 181 = .ok (.ireturn, 1) := by decide +kernel
theorem dL_law_182 : decode cL_law 182 = .ok (.iload 4, 2) := by decide +kernel
theorem dL_law_184 : decode cL_law 184 = .ok (.aload_n 1, 1) := by decide +kernel
theorem dL_law_185 : decode cL_law 185 = .ok (.bipush 70, 2) := by decide +kernel
theorem dL_law_187 : decode cL_law 187 = .ok (.invokestatic 140, 3) := by decide +kernel
theorem dL_law_190 : decode cL_law 190 = .ok (.aload_n 1, 1) := by decide +kernel
theorem dL_law_191 : decode cL_law 191 = .ok (.iconst 0, 1) := by decide +kernel
theorem dL_law_192 : decode cL_law 192 = .ok (.iconst 0, 1) := by decide +kernel
theorem dL_law_193 : decode cL_law 193 = .ok (.invokestatic 129, 3) := by decide +kernel
theorem dL_law_196 : decode cL_law 196 = .ok (.iadd, 1) := by decide +kernel
theorem dL_law_197 : decode cL_law 197 = .ok (.aload_n 1, 1) := by decide +kernel
theorem dL_law_198 : decode cL_law 198 = .ok (.iconst 3, 1) := by decide +kernel
theorem dL_law_199 : decode cL_law 199 = .ok (.invokestatic 134, 3) := by decide +kernel
theorem dL_law_202 : decode cL_law 202 = .ok (.iadd, 1) := by decide +kernel
theorem dL_law_203 : decode cL_law 203 = .ok (.aload_n 1, 1) := by decide +kernel
theorem dL_law_204 : decode cL_law 204 = .ok (.iconst 4, 1) := by decide +kernel
theorem dL_law_205 : decode cL_law 205 = .ok (.invokestatic 136, 3) := by decide +kernel
theorem dL_law_208 : decode cL_law 208 = .ok (.iadd, 1) := by decide +kernel
theorem dL_law_209 : decode cL_law 209 = .ok (.aload_n 1, 1) := by decide +kernel
theorem dL_law_210 : decode cL_law 210 = .ok (.bipush 9, 2) := by decide +kernel
theorem dL_law_212 : decode cL_law 212 = .ok (.invokestatic 132, 3) := by decide +kernel
theorem dL_law_215 : decode cL_law 215 = .ok (.iadd, 1) := by decide +kernel
theorem dL_law_216 : decode cL_law 216 = .ok (.iadd, 1) := by decide +kernel
theorem dL_law_217 : decode cL_law 217 = .ok (.istore 4, 2) := by decide +kernel
theorem dL_law_219 : decode cL_law 219 = .ok (.iload 4, 2) := by decide +kernel
theorem dL_law_221 : decode cL_law 221 = .ok (.ldc 142, 2) := by decide +kernel
theorem dL_law_223 : decode cL_law 223 = .ok (.if_icmp .le 35, 3) := by decide +kernel
theorem dL_law_226 : decode cL_law 226 = .ok (.aload_n 1, 1) := by decide +kernel
theorem dL_law_227 : decode cL_law 227 = .ok (.invokestatic 308, 3) := by decide +kernel
theorem dL_law_230 : decode cL_law 230 = .ok (.iload_n 3, 1) := by decide +kernel
theorem dL_law_231 : decode cL_law 231 = .ok (.if_icmp .ne 27, 3) := by decide +kernel
