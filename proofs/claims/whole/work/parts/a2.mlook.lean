theorem d_M_lookBehind_0 : decode b_M_lookBehind 0 = .ok (.aload_n 0, 1) := by decide +kernel
theorem d_M_lookBehind_1 : decode b_M_lookBehind 1 = .ok (.getfield 24, 3) := by decide +kernel
theorem d_M_lookBehind_4 : decode b_M_lookBehind 4 = .ok (.iload_n 3, 1) := by decide +kernel
theorem d_M_lookBehind_5 : decode b_M_lookBehind 5 = .ok (.iaload, 1) := by decide +kernel
theorem d_M_lookBehind_6 : decode b_M_lookBehind 6 = .ok (.istore 5, 2) := by decide +kernel
theorem d_M_lookBehind_8 : decode b_M_lookBehind 8 = .ok (.aload_n 0, 1) := by decide +kernel
theorem d_M_lookBehind_9 : decode b_M_lookBehind 9 = .ok (.getfield 129, 3) := by decide +kernel
theorem d_M_lookBehind_12 : decode b_M_lookBehind 12 = .ok (.iconst 1, 1) := by decide +kernel
theorem d_M_lookBehind_13 : decode b_M_lookBehind 13 = .ok (.isub, 1) := by decide +kernel
theorem d_M_lookBehind_14 : decode b_M_lookBehind 14 = .ok (.istore 6, 2) := by decide +kernel
theorem d_M_lookBehind_16 : decode b_M_lookBehind 16 = .ok (.aload_n 0, 1) := by decide +kernel
theorem d_M_lookBehind_17 : decode b_M_lookBehind 17 = .ok (.getfield 17, 3) := by decide +kernel
theorem d_M_lookBehind_20 : decode b_M_lookBehind 20 = .ok (.iload_n 1, 1) := by decide +kernel
theorem d_M_lookBehind_21 : decode b_M_lookBehind 21 = .ok (.iaload, 1) := by decide +kernel
theorem d_M_lookBehind_22 : decode b_M_lookBehind 22 = .ok (.lookupswitch 242 #[(3, 42), (4, 152), (12, 211), (13, 214)], 42) := by decide +kernel
theorem d_M_lookBehind_64 : decode b_M_lookBehind 64 = .ok (.iload_n 2, 1) := by decide +kernel
theorem d_M_lookBehind_65 : decode b_M_lookBehind 65 = .ok (.ifCond .ne 14, 3) := by decide +kernel
theorem d_M_lookBehind_68 : decode b_M_lookBehind 68 = .ok (.iload 4, 2) := by decide +kernel
theorem d_M_lookBehind_70 : decode b_M_lookBehind 70 = .ok (.ifCond .eq 9, 3) := by decide +kernel
theorem d_M_lookBehind_73 : decode b_M_lookBehind 73 = .ok (.aload_n 0, 1) := by decide +kernel
theorem d_M_lookBehind_74 : decode b_M_lookBehind 74 = .ok (.iload 5, 2) := by decide +kernel
theorem d_M_lookBehind_76 : decode b_M_lookBehind 76 = .ok (.invokevirtual 172, 3) := by decide +kernel
theorem d_M_lookBehind_79 : decode b_M_lookBehind 79 = .ok (.iload_n 2, 1) := by decide +kernel
theorem d_M_lookBehind_80 : decode b_M_lookBehind 80 = .ok (.ifCond .ne 14, 3) := by decide +kernel
theorem d_M_lookBehind_83 : decode b_M_lookBehind 83 = .ok (.aload_n 0, 1) := by decide +kernel
theorem d_M_lookBehind_84 : decode b_M_lookBehind 84 = .ok (.getfield 58, 3) := by decide +kernel
theorem d_M_lookBehind_87 : decode b_M_lookBehind 87 = .ok (.iload 6, 2) := by decide +kernel
theorem d_M_lookBehind_89 : decode b_M_lookBehind 89 = .ok (.aload_n 0, 1) := by decide +kernel
theorem d_M_lookBehind_90 : decode b_M_lookBehind 90 = .ok (.getfield 165, 3) := by decide +kernel
theorem d_M_lookBehind_93 : decode b_M_lookBehind 93 = .ok (.iastore, 1) := by decide +kernel
theorem d_M_lookBehind_94 : decode b_M_lookBehind 94 = .ok (.iload_n 2, 1) := by decide +kernel
theorem d_M_lookBehind_95 : decode b_M_lookBehind 95 = .ok (.iconst 1, 1) := by decide +kernel
theorem d_M_lookBehind_96 : decode b_M_lookBehind 96 = .ok (.if_icmp .ne 34, 3) := by decide +kernel
theorem d_M_lookBehind_99 : decode b_M_lookBehind 99 = .ok (.aload_n 0, 1) := by decide +kernel
theorem d_M_lookBehind_100 : decode b_M_lookBehind 100 = .ok (.getfield 64, 3) := by decide +kernel
theorem d_M_lookBehind_103 : decode b_M_lookBehind 103 = .ok (.iload 6, 2) := by decide +kernel
theorem d_M_lookBehind_105 : decode b_M_lookBehind 105 = .ok (.iload 4, 2) := by decide +kernel
theorem d_M_lookBehind_107 : decode b_M_lookBehind 107 = .ok (.iastore, 1) := by decide +kernel
theorem d_M_lookBehind_108 : decode b_M_lookBehind 108 = .ok (.aload_n 0, 1) := by decide +kernel
theorem d_M_lookBehind_109 : decode b_M_lookBehind 109 = .ok (.getfield 61, 3) := by decide +kernel
theorem d_M_lookBehind_112 : decode b_M_lookBehind 112 = .ok (.iload 6, 2) := by decide +kernel
theorem d_M_lookBehind_114 : decode b_M_lookBehind 114 = .ok (.aload_n 0, 1) := by decide +kernel
theorem d_M_lookBehind_115 : decode b_M_lookBehind 115 = .ok (.getfield 165, 3) := by decide +kernel
theorem d_M_lookBehind_118 : decode b_M_lookBehind 118 = .ok (.iastore, 1) := by decide +kernel
theorem d_M_lookBehind_119 : decode b_M_lookBehind 119 = .ok (.aload_n 0, 1) := by decide +kernel
theorem d_M_lookBehind_120 : decode b_M_lookBehind 120 = .ok (.aload_n 0, 1) := by decide +kernel
theorem d_M_lookBehind_121 : decode b_M_lookBehind 121 = .ok (.getfield 58, 3) := by decide +kernel
theorem d_M_lookBehind_124 : decode b_M_lookBehind 124 = .ok (.iload 6, 2) := by decide +kernel
theorem d_M_lookBehind_126 : decode b_M_lookBehind 126 = .ok (.iaload, 1) := by decide +kernel
theorem d_M_lookBehind_127 : decode b_M_lookBehind 127 = .ok (.putfield 165, 3) := by decide +kernel
theorem d_M_lookBehind_130 : decode b_M_lookBehind 130 = .ok (.iload_n 2, 1) := by decide +kernel
theorem d_M_lookBehind_131 : decode b_M_lookBehind 131 = .ok (.iconst 2, 1) := by decide +kernel
theorem d_M_lookBehind_132 : decode b_M_lookBehind 132 = .ok (.if_icmp .ne 143, 3) := by decide +kernel
theorem d_M_lookBehind_135 : decode b_M_lookBehind 135 = .ok (.iload 4, 2) := by decide +kernel
theorem d_M_lookBehind_137 : decode b_M_lookBehind 137 = .ok (.aload_n 0, 1) := by decide +kernel
theorem d_M_lookBehind_138 : decode b_M_lookBehind 138 = .ok (.getfield 64, 3) := by decide +kernel
theorem d_M_lookBehind_141 : decode b_M_lookBehind 141 = .ok (.iload 6, 2) := by decide +kernel
theorem d_M_lookBehind_143 : decode b_M_lookBehind 143 = .ok (.iaload, 1) := by decide +kernel
theorem d_M_lookBehind_144 : decode b_M_lookBehind 144 = .ok (.if_icmp .ne 17, 3) := by decide +kernel
theorem d_M_lookBehind_147 : decode b_M_lookBehind 147 = .ok (.aload_n 0, 1) := by decide +kernel
theorem d_M_lookBehind_148 : decode b_M_lookBehind 148 = .ok (.getfield 165, 3) := by decide +kernel
theorem d_M_lookBehind_151 : decode b_M_lookBehind 151 = .ok (.aload_n 0, 1) := by decide +kernel
theorem d_M_lookBehind_152 : decode b_M_lookBehind 152 = .ok (.getfield 61, 3) := by decide +kernel
theorem d_M_lookBehind_155 : decode b_M_lookBehind 155 = .ok (.iload 6, 2) := by decide +kernel
theorem d_M_lookBehind_157 : decode b_M_lookBehind 157 = .ok (.iaload, 1) := by decide +kernel
theorem d_M_lookBehind_158 : decode b_M_lookBehind 158 = .ok (.if_icmp .eq 117, 3) := by decide +kernel
theorem d_M_lookBehind_161 : decode b_M_lookBehind 161 = .ok (.aload_n 0, 1) := by decide +kernel
theorem d_M_lookBehind_162 : decode b_M_lookBehind 162 = .ok (.aload_n 0, 1) := by decide +kernel
theorem d_M_lookBehind_163 : decode b_M_lookBehind 163 = .ok (.getfield 24, 3) := by decide +kernel
theorem d_M_lookBehind_166 : decode b_M_lookBehind 166 = .ok (.iload_n 1, 1) := by decide +kernel
theorem d_M_lookBehind_167 : decode b_M_lookBehind 167 = .ok (.iaload, 1) := by decide +kernel
theorem d_M_lookBehind_168 : decode b_M_lookBehind 168 = .ok (.invokevirtual 172, 3) := by decide +kernel
theorem d_M_lookBehind_171 : decode b_M_lookBehind 171 = .ok (.goto 104, 3) := by decide +kernel
theorem d_M_lookBehind_174 : decode b_M_lookBehind 174 = .ok (.iload_n 2, 1) := by decide +kernel
theorem d_M_lookBehind_175 : decode b_M_lookBehind 175 = .ok (.ifCond .ne 18, 3) := by decide +kernel
theorem d_M_lookBehind_178 : decode b_M_lookBehind 178 = .ok (.aload_n 0, 1) := by decide +kernel
theorem d_M_lookBehind_179 : decode b_M_lookBehind 179 = .ok (.aload_n 0, 1) := by decide +kernel
theorem d_M_lookBehind_180 : decode b_M_lookBehind 180 = .ok (.getfield 21, 3) := by decide +kernel
theorem d_M_lookBehind_183 : decode b_M_lookBehind 183 = .ok (.iload_n 1, 1) := by decide +kernel
theorem d_M_lookBehind_184 : decode b_M_lookBehind 184 = .ok (.iaload, 1) := by decide +kernel
theorem d_M_lookBehind_185 : decode b_M_lookBehind 185 = .ok (.iload 4, 2) := by decide +kernel
theorem d_M_lookBehind_187 : decode b_M_lookBehind 187 = .ok (.invokevirtual 188, 3) := by decide +kernel
theorem d_M_lookBehind_190 : decode b_M_lookBehind 190 = .ok (.goto 85, 3) := by decide +kernel
theorem d_M_lookBehind_193 : decode b_M_lookBehind 193 = .ok (.aload_n 0, 1) := by decide +kernel
theorem d_M_lookBehind_194 : decode b_M_lookBehind 194 = .ok (.aload_n 0, 1) := by decide +kernel
theorem d_M_lookBehind_195 : decode b_M_lookBehind 195 = .ok (.getfield 21, 3) := by decide +kernel
theorem d_M_lookBehind_198 : decode b_M_lookBehind 198 = .ok (.iload_n 1, 1) := by decide +kernel
theorem d_M_lookBehind_199 : decode b_M_lookBehind 199 = .ok (.iaload, 1) := by decide +kernel
theorem d_M_lookBehind_200 : decode b_M_lookBehind 200 = .ok (.invokevirtual 168, 3) := by decide +kernel
theorem d_M_lookBehind_203 : decode b_M_lookBehind 203 = .ok (.ifCond .eq 15, 3) := by decide +kernel
theorem d_M_lookBehind_206 : decode b_M_lookBehind 206 = .ok (.aload_n 0, 1) := by decide +kernel
theorem d_M_lookBehind_207 : decode b_M_lookBehind 207 = .ok (.aload_n 0, 1) := by decide +kernel
theorem d_M_lookBehind_208 : decode b_M_lookBehind 208 = .ok (.getfield 24, 3) := by decide +kernel
theorem d_M_lookBehind_211 : decode b_M_lookBehind 211 = .ok (.iload_n 1, 1) := by decide +kernel
theorem d_M_lookBehind_212 : decode b_M_lookBehind 212 = .ok (.iaload, 1) := by decide +kernel
theorem d_M_lookBehind_213 : decode b_M_lookBehind 213 = .ok (.iconst 1, 1) := by decide +kernel
theorem d_M_lookBehind_214 : decode b_M_lookBehind 214 = .ok (.iadd, 1) := by decide +kernel
theorem d_M_lookBehind_215 : decode b_M_lookBehind 215 = .ok (.invokevirtual 172, 3) := by decide +kernel
theorem d_M_lookBehind_218 : decode b_M_lookBehind 218 = .ok (.aload_n 0, 1) := by decide +kernel
theorem d_M_lookBehind_219 : decode b_M_lookBehind 219 = .ok (.getfield 67, 3) := by decide +kernel
theorem d_M_lookBehind_222 : decode b_M_lookBehind 222 = .ok (.aload_n 0, 1) := by decide +kernel
theorem d_M_lookBehind_223 : decode b_M_lookBehind 223 = .ok (.getfield 21, 3) := by decide +kernel
theorem d_M_lookBehind_226 : decode b_M_lookBehind 226 = .ok (.iload_n 1, 1) := by decide +kernel
theorem d_M_lookBehind_227 : decode b_M_lookBehind 227 = .ok (.iaload, 1) := by decide +kernel
theorem d_M_lookBehind_228 : decode b_M_lookBehind 228 = .ok (.iconst (-1), 1) := by decide +kernel
theorem d_M_lookBehind_229 : decode b_M_lookBehind 229 = .ok (.iastore, 1) := by decide +kernel
theorem d_M_lookBehind_230 : decode b_M_lookBehind 230 = .ok (.goto 45, 3) := by decide +kernel
theorem d_M_lookBehind_233 : decode b_M_lookBehind 233 = .ok (.goto 42, 3) := by decide +kernel
theorem d_M_lookBehind_236 : decode b_M_lookBehind 236 = .ok (.iload 4, 2) := by decide +kernel
theorem d_M_lookBehind_238 : decode b_M_lookBehind 238 = .ok (.aload_n 0, 1) := by decide +kernel
theorem d_M_lookBehind_239 : decode b_M_lookBehind 239 = .ok (.getfield 46, 3) := by decide +kernel
theorem d_M_lookBehind_242 : decode b_M_lookBehind 242 = .ok (.iconst 4, 1) := by decide +kernel
theorem d_M_lookBehind_243 : decode b_M_lookBehind 243 = .ok (.aload_n 0, 1) := by decide +kernel
theorem d_M_lookBehind_244 : decode b_M_lookBehind 244 = .ok (.iload_n 1, 1) := by decide +kernel
theorem d_M_lookBehind_245 : decode b_M_lookBehind 245 = .ok (.invokevirtual 184, 3) := by decide +kernel
theorem d_M_lookBehind_248 : decode b_M_lookBehind 248 = .ok (.imul, 1) := by decide +kernel
theorem d_M_lookBehind_249 : decode b_M_lookBehind 249 = .ok (.iload_n 2, 1) := by decide +kernel
theorem d_M_lookBehind_250 : decode b_M_lookBehind 250 = .ok (.iadd, 1) := by decide +kernel
theorem d_M_lookBehind_251 : decode b_M_lookBehind 251 = .ok (.iaload, 1) := by decide +kernel
theorem d_M_lookBehind_252 : decode b_M_lookBehind 252 = .ok (.if_icmp .eq 23, 3) := by decide +kernel
theorem d_M_lookBehind_255 : decode b_M_lookBehind 255 = .ok (.aload_n 0, 1) := by decide +kernel
theorem d_M_lookBehind_256 : decode b_M_lookBehind 256 = .ok (.iload 5, 2) := by decide +kernel
theorem d_M_lookBehind_258 : decode b_M_lookBehind 258 = .ok (.invokevirtual 172, 3) := by decide +kernel
theorem d_M_lookBehind_261 : decode b_M_lookBehind 261 = .ok (.goto 14, 3) := by decide +kernel
theorem d_M_lookBehind_264 : decode b_M_lookBehind 264 = .ok (.iload 4, 2) := by decide +kernel
theorem d_M_lookBehind_266 : decode b_M_lookBehind 266 = .ok (.ifCond .eq 9, 3) := by decide +kernel
theorem d_M_lookBehind_269 : decode b_M_lookBehind 269 = .ok (.aload_n 0, 1) := by decide +kernel
theorem d_M_lookBehind_270 : decode b_M_lookBehind 270 = .ok (.iload 5, 2) := by decide +kernel
theorem d_M_lookBehind_272 : decode b_M_lookBehind 272 = .ok (.invokevirtual 172, 3) := by decide +kernel
theorem d_M_lookBehind_275 : decode b_M_lookBehind 275 = .ok (.return_, 1) := by decide +kernel
theorem d_M_typeOf_0 : decode b_M_typeOf 0 = .ok (.aload_n 0, 1) := by decide +kernel
theorem d_M_typeOf_1 : decode b_M_typeOf 1 = .ok (.getfield 21, 3) := by decide +kernel
theorem d_M_typeOf_4 : decode b_M_typeOf 4 = .ok (.iload_n 1, 1) := by decide +kernel
theorem d_M_typeOf_5 : decode b_M_typeOf 5 = .ok (.iaload, 1) := by decide +kernel
theorem d_M_typeOf_6 : decode b_M_typeOf 6 = .ok (.istore_n 3, 1) := by decide +kernel
theorem d_M_typeOf_7 : decode b_M_typeOf 7 = .ok (.aload_n 0, 1) := by decide +kernel
theorem d_M_typeOf_8 : decode b_M_typeOf 8 = .ok (.getfield 17, 3) := by decide +kernel
theorem d_M_typeOf_11 : decode b_M_typeOf 11 = .ok (.iload_n 1, 1) := by decide +kernel
theorem d_M_typeOf_12 : decode b_M_typeOf 12 = .ok (.iaload, 1) := by decide +kernel
theorem d_M_typeOf_13 : decode b_M_typeOf 13 = .ok (.tableswitch 226 1 13 #[67, 226, 90, 90, 92, 94, 96, 126, 162, 181, 199, 90, 215], 67) := by decide +kernel
theorem d_M_typeOf_80 : decode b_M_typeOf 80 = .ok (.aload_n 0, 1) := by decide +kernel
theorem d_M_typeOf_81 : decode b_M_typeOf 81 = .ok (.iload_n 3, 1) := by decide +kernel
theorem d_M_typeOf_82 : decode b_M_typeOf 82 = .ok (.aload_n 0, 1) := by decide +kernel
theorem d_M_typeOf_83 : decode b_M_typeOf 83 = .ok (.getfield 24, 3) := by decide +kernel
theorem d_M_typeOf_86 : decode b_M_typeOf 86 = .ok (.iload_n 1, 1) := by decide +kernel
theorem d_M_typeOf_87 : decode b_M_typeOf 87 = .ok (.iaload, 1) := by decide +kernel
theorem d_M_typeOf_88 : decode b_M_typeOf 88 = .ok (.bipush 7, 2) := by decide +kernel
theorem d_M_typeOf_90 : decode b_M_typeOf 90 = .ok (.invokevirtual 178, 3) := by decide +kernel
theorem d_M_typeOf_93 : decode b_M_typeOf 93 = .ok (.istore 4, 2) := by decide +kernel
theorem d_M_typeOf_95 : decode b_M_typeOf 95 = .ok (.aload_n 0, 1) := by decide +kernel
theorem d_M_typeOf_96 : decode b_M_typeOf 96 = .ok (.iload_n 3, 1) := by decide +kernel
theorem d_M_typeOf_97 : decode b_M_typeOf 97 = .ok (.invokevirtual 181, 3) := by decide +kernel
theorem d_M_typeOf_100 : decode b_M_typeOf 100 = .ok (.iload 4, 2) := by decide +kernel
theorem d_M_typeOf_102 : decode b_M_typeOf 102 = .ok (.ireturn, 1) := by decide +kernel
theorem d_M_typeOf_103 : decode b_M_typeOf 103 = .ok (.iload_n 2, 1) := by decide +kernel
theorem d_M_typeOf_104 : decode b_M_typeOf 104 = .ok (.ireturn, 1) := by decide +kernel
theorem d_M_typeOf_105 : decode b_M_typeOf 105 = .ok (.iconst 1, 1) := by decide +kernel
theorem d_M_typeOf_106 : decode b_M_typeOf 106 = .ok (.ireturn, 1) := by decide +kernel
theorem d_M_typeOf_107 : decode b_M_typeOf 107 = .ok (.iconst 2, 1) := by decide +kernel
theorem d_M_typeOf_108 : decode b_M_typeOf 108 = .ok (.ireturn, 1) := by decide +kernel
theorem d_M_typeOf_109 : decode b_M_typeOf 109 = .ok (.aload_n 0, 1) := by decide +kernel
theorem d_M_typeOf_110 : decode b_M_typeOf 110 = .ok (.iload_n 3, 1) := by decide +kernel
theorem d_M_typeOf_111 : decode b_M_typeOf 111 = .ok (.aload_n 0, 1) := by decide +kernel
theorem d_M_typeOf_112 : decode b_M_typeOf 112 = .ok (.getfield 24, 3) := by decide +kernel
theorem d_M_typeOf_115 : decode b_M_typeOf 115 = .ok (.iload_n 1, 1) := by decide +kernel
theorem d_M_typeOf_116 : decode b_M_typeOf 116 = .ok (.iaload, 1) := by decide +kernel
theorem d_M_typeOf_117 : decode b_M_typeOf 117 = .ok (.aload_n 0, 1) := by decide +kernel
theorem d_M_typeOf_118 : decode b_M_typeOf 118 = .ok (.getfield 27, 3) := by decide +kernel
theorem d_M_typeOf_121 : decode b_M_typeOf 121 = .ok (.iload_n 1, 1) := by decide +kernel
theorem d_M_typeOf_122 : decode b_M_typeOf 122 = .ok (.iaload, 1) := by decide +kernel
theorem d_M_typeOf_123 : decode b_M_typeOf 123 = .ok (.iconst 1, 1) := by decide +kernel
theorem d_M_typeOf_124 : decode b_M_typeOf 124 = .ok (.if_icmp .ne 7, 3) := by decide +kernel
theorem d_M_typeOf_127 : decode b_M_typeOf 127 = .ok (.iconst 2, 1) := by decide +kernel
theorem d_M_typeOf_128 : decode b_M_typeOf 128 = .ok (.goto 4, 3) := by decide +kernel
theorem d_M_typeOf_131 : decode b_M_typeOf 131 = .ok (.iconst 4, 1) := by decide +kernel
theorem d_M_typeOf_132 : decode b_M_typeOf 132 = .ok (.invokevirtual 178, 3) := by decide +kernel
theorem d_M_typeOf_135 : decode b_M_typeOf 135 = .ok (.istore 4, 2) := by decide +kernel
theorem d_M_typeOf_137 : decode b_M_typeOf 137 = .ok (.iconst 0, 1) := by decide +kernel
theorem d_M_typeOf_138 : decode b_M_typeOf 138 = .ok (.ireturn, 1) := by decide +kernel
theorem d_M_typeOf_139 : decode b_M_typeOf 139 = .ok (.aload_n 0, 1) := by decide +kernel
theorem d_M_typeOf_140 : decode b_M_typeOf 140 = .ok (.iload_n 3, 1) := by decide +kernel
theorem d_M_typeOf_141 : decode b_M_typeOf 141 = .ok (.aload_n 0, 1) := by decide +kernel
theorem d_M_typeOf_142 : decode b_M_typeOf 142 = .ok (.getfield 24, 3) := by decide +kernel
theorem d_M_typeOf_145 : decode b_M_typeOf 145 = .ok (.iload_n 1, 1) := by decide +kernel
theorem d_M_typeOf_146 : decode b_M_typeOf 146 = .ok (.iaload, 1) := by decide +kernel
theorem d_M_typeOf_147 : decode b_M_typeOf 147 = .ok (.aload_n 0, 1) := by decide +kernel
theorem d_M_typeOf_148 : decode b_M_typeOf 148 = .ok (.getfield 27, 3) := by decide +kernel
theorem d_M_typeOf_151 : decode b_M_typeOf 151 = .ok (.iload_n 1, 1) := by decide +kernel
theorem d_M_typeOf_152 : decode b_M_typeOf 152 = .ok (.iaload, 1) := by decide +kernel
theorem d_M_typeOf_153 : decode b_M_typeOf 153 = .ok (.iconst 2, 1) := by decide +kernel
theorem d_M_typeOf_154 : decode b_M_typeOf 154 = .ok (.if_icmp .ne 7, 3) := by decide +kernel
theorem d_M_typeOf_157 : decode b_M_typeOf 157 = .ok (.iconst 2, 1) := by decide +kernel
theorem d_M_typeOf_158 : decode b_M_typeOf 158 = .ok (.goto 4, 3) := by decide +kernel
theorem d_M_typeOf_161 : decode b_M_typeOf 161 = .ok (.iconst 4, 1) := by decide +kernel
theorem d_M_typeOf_162 : decode b_M_typeOf 162 = .ok (.invokevirtual 178, 3) := by decide +kernel
theorem d_M_typeOf_165 : decode b_M_typeOf 165 = .ok (.istore 4, 2) := by decide +kernel
theorem d_M_typeOf_167 : decode b_M_typeOf 167 = .ok (.aload_n 0, 1) := by decide +kernel
theorem d_M_typeOf_168 : decode b_M_typeOf 168 = .ok (.iload_n 3, 1) := by decide +kernel
theorem d_M_typeOf_169 : decode b_M_typeOf 169 = .ok (.invokevirtual 181, 3) := by decide +kernel
theorem d_M_typeOf_172 : decode b_M_typeOf 172 = .ok (.iload 4, 2) := by decide +kernel
theorem d_M_typeOf_174 : decode b_M_typeOf 174 = .ok (.ireturn, 1) := by decide +kernel
theorem d_M_typeOf_175 : decode b_M_typeOf 175 = .ok (.aload_n 0, 1) := by decide +kernel
theorem d_M_typeOf_176 : decode b_M_typeOf 176 = .ok (.iload_n 3, 1) := by decide +kernel
theorem d_M_typeOf_177 : decode b_M_typeOf 177 = .ok (.aload_n 0, 1) := by decide +kernel
theorem d_M_typeOf_178 : decode b_M_typeOf 178 = .ok (.getfield 24, 3) := by decide +kernel
theorem d_M_typeOf_181 : decode b_M_typeOf 181 = .ok (.iload_n 1, 1) := by decide +kernel
theorem d_M_typeOf_182 : decode b_M_typeOf 182 = .ok (.iaload, 1) := by decide +kernel
theorem d_M_typeOf_183 : decode b_M_typeOf 183 = .ok (.iconst 1, 1) := by decide +kernel
theorem d_M_typeOf_184 : decode b_M_typeOf 184 = .ok (.iadd, 1) := by decide +kernel
theorem d_M_typeOf_185 : decode b_M_typeOf 185 = .ok (.bipush 6, 2) := by decide +kernel
theorem d_M_typeOf_187 : decode b_M_typeOf 187 = .ok (.invokevirtual 178, 3) := by decide +kernel
theorem d_M_typeOf_190 : decode b_M_typeOf 190 = .ok (.istore 4, 2) := by decide +kernel
theorem d_M_typeOf_192 : decode b_M_typeOf 192 = .ok (.iconst 0, 1) := by decide +kernel
theorem d_M_typeOf_193 : decode b_M_typeOf 193 = .ok (.ireturn, 1) := by decide +kernel
theorem d_M_typeOf_194 : decode b_M_typeOf 194 = .ok (.aload_n 0, 1) := by decide +kernel
theorem d_M_typeOf_195 : decode b_M_typeOf 195 = .ok (.iload_n 3, 1) := by decide +kernel
theorem d_M_typeOf_196 : decode b_M_typeOf 196 = .ok (.aload_n 0, 1) := by decide +kernel
theorem d_M_typeOf_197 : decode b_M_typeOf 197 = .ok (.getfield 24, 3) := by decide +kernel
theorem d_M_typeOf_200 : decode b_M_typeOf 200 = .ok (.iload_n 1, 1) := by decide +kernel
theorem d_M_typeOf_201 : decode b_M_typeOf 201 = .ok (.iaload, 1) := by decide +kernel
theorem d_M_typeOf_202 : decode b_M_typeOf 202 = .ok (.iconst 1, 1) := by decide +kernel
theorem d_M_typeOf_203 : decode b_M_typeOf 203 = .ok (.iadd, 1) := by decide +kernel
theorem d_M_typeOf_204 : decode b_M_typeOf 204 = .ok (.iconst 4, 1) := by decide +kernel
theorem d_M_typeOf_205 : decode b_M_typeOf 205 = .ok (.invokevirtual 178, 3) := by decide +kernel
theorem d_M_typeOf_208 : decode b_M_typeOf 208 = .ok (.istore 4, 2) := by decide +kernel
theorem d_M_typeOf_210 : decode b_M_typeOf 210 = .ok (.iconst 0, 1) := by decide +kernel
theorem d_M_typeOf_211 : decode b_M_typeOf 211 = .ok (.ireturn, 1) := by decide +kernel
theorem d_M_typeOf_212 : decode b_M_typeOf 212 = .ok (.aload_n 0, 1) := by decide +kernel
theorem d_M_typeOf_213 : decode b_M_typeOf 213 = .ok (.iload_n 3, 1) := by decide +kernel
theorem d_M_typeOf_214 : decode b_M_typeOf 214 = .ok (.aload_n 0, 1) := by decide +kernel
theorem d_M_typeOf_215 : decode b_M_typeOf 215 = .ok (.getfield 24, 3) := by decide +kernel
theorem d_M_typeOf_218 : decode b_M_typeOf 218 = .ok (.iload_n 1, 1) := by decide +kernel
theorem d_M_typeOf_219 : decode b_M_typeOf 219 = .ok (.iaload, 1) := by decide +kernel
theorem d_M_typeOf_220 : decode b_M_typeOf 220 = .ok (.iconst 1, 1) := by decide +kernel
theorem d_M_typeOf_221 : decode b_M_typeOf 221 = .ok (.iadd, 1) := by decide +kernel
theorem d_M_typeOf_222 : decode b_M_typeOf 222 = .ok (.bipush 6, 2) := by decide +kernel
theorem d_M_typeOf_224 : decode b_M_typeOf 224 = .ok (.invokevirtual 178, 3) := by decide +kernel
theorem d_M_typeOf_227 : decode b_M_typeOf 227 = .ok (.ireturn, 1) := by decide +kernel
theorem d_M_typeOf_228 : decode b_M_typeOf 228 = .ok (.aload_n 0, 1) := by decide +kernel
theorem d_M_typeOf_229 : decode b_M_typeOf 229 = .ok (.getfield 40, 3) := by decide +kernel
theorem d_M_typeOf_232 : decode b_M_typeOf 232 = .ok (.aload_n 0, 1) := by decide +kernel
theorem d_M_typeOf_233 : decode b_M_typeOf 233 = .ok (.iload_n 1, 1) := by decide +kernel
theorem d_M_typeOf_234 : decode b_M_typeOf 234 = .ok (.invokevirtual 184, 3) := by decide +kernel
theorem d_M_typeOf_237 : decode b_M_typeOf 237 = .ok (.iaload, 1) := by decide +kernel
theorem d_M_typeOf_238 : decode b_M_typeOf 238 = .ok (.ireturn, 1) := by decide +kernel
theorem d_M_typeOf_239 : decode b_M_typeOf 239 = .ok (.iconst 0, 1) := by decide +kernel
theorem d_M_typeOf_240 : decode b_M_typeOf 240 = .ok (.ireturn, 1) := by decide +kernel
section MLB
variable {G : zG} {l : Launch} {n : Nat} {σ : zS} {S S0 : mS} {A A0 : mA} {L : mL} {rn : Int64} {cl : Nat → Option cF} {f op i : Nat} {s : bS} {E : Nat → eN} {e : eN}
/-- a node, as the reference has it -/
def mNd (A0 : mA) (i : Nat) (e : eN) : Prop := i < 150 ∧ e.1 < 14 ∧ A0 87 (1200 + i) = nI e.1 ∧ A0 90 (1200 + i) = nI e.2.2.2.1 ∧ A0 89 (1200 + i) = e.2.1 ∧ tArg (A0 88 (1200 + i)) e ∧ eCnt e.1 e.2.2.2.1 ∧ e.2.2.2.1 ≤ 4
def mBo (S0 : mS) (A0 : mA) (op : Nat) (x : Int32 ⊕ bS) (S : mS) (A : mA) : Prop := match x with
  | .inl q => mWr S0 A0 q S A
  | .inr s => mCk S0 A0 s op S A
theorem c_M_lookBefore (hn : 113 ≤ n) (henv : mEnv S0 A0 cl f) (hm : mCk S0 A0 s op S A) (hN : mNd A0 i e) : MetZ G l y_M_lookBefore b_M_lookBefore 4 none [] 2 0 0 [.ref 85, .int (nI (1200 + i))] n (mOv S A L rn σ) (fun o n' σ' => o = .returned none ∧ n' = n ∧ ∃ S', σ' = mOv S' A L rn σ ∧ mBo S0 A0 op (lkB cl e s) S' A) := by
  have hm0 := hm
  obtain ⟨h27, h26, h19, h103, hk0, hA0⟩ := hm
  obtain ⟨hi, hK14, a87, a90, a89, ⟨⟨v0, hv20, ev⟩, ⟨g, hg8, eg⟩, t0, t2, t13, tv, tp, tq⟩, hcn, hc4⟩ := hN
  have b87 : A 87 (1200 + i) = nI e.1 := by rw [hA0 87 (by omega)]; exact a87
  have b88 : A 88 (1200 + i) = A0 88 (1200 + i) := by rw [hA0 88 (by omega)]
  have b89 : A 89 (1200 + i) = e.2.1 := by rw [hA0 89 (by omega)]; exact a89
  have hix : cIx (eVr e) = v0 := by rw [ev]; exact nI_clamp (by omega)
  have hig : cIx (eNm e) = g := by rw [eg]; exact nI_clamp (by omega)
  obtain ⟨res, hres⟩ : ∃ x, lkB cl e s = x := ⟨_, rfl⟩
  rw [hres]
  unfold lkB at hres
  refine MetZ.of (by decide) (Nat.le_of_ble_eq_true rfl) (fun K hK hR hpo hmc hms C => ?_)
  refine z_aload_n C 1 d_M_lookBefore_0 rfl rfl ?_
  refine zm_get C 4 f_M_21 d_M_lookBefore_1 rfl hn rfl ?_
  refine z_iload_n C 5 d_M_lookBefore_4 rfl rfl ?_
  refine zm_iald C 6 (1200+i) d_M_lookBefore_5 rfl hn (by decide) (by decide) (by decide) rfl (by show 1200 + i < 1350; omega) (by decide) ?_
  rw [b88]
  refine z_istore_n C 7 d_M_lookBefore_6 rfl (by decide) ?_
  refine z_aload_n C 8 d_M_lookBefore_7 rfl rfl ?_
  refine zm_get C 11 f_M_17 d_M_lookBefore_8 rfl hn rfl ?_
  refine z_iload_n C 12 d_M_lookBefore_11 rfl rfl ?_
  refine zm_iald C 13 (1200+i) d_M_lookBefore_12 rfl hn (by decide) (by decide) (by decide) rfl (by show 1200 + i < 1350; omega) (by decide) ?_
  rw [b87]
  refine z_iconst C 14 d_M_lookBefore_13 rfl 4 (by decide) ?_
  have t99 : ∀ (S' : mS) (x y : Int32), mBo S0 A0 op res S' A → e.1 ≠ 13 → ∀ lv, zl lv 0 = some (.ref 85) → zl lv 1 = some (.int (nI (1200 + i))) → Z G K n (mOv S' A L rn σ) 0 0 70 lv [] := fun S' x y hr h13 lv l0 l1 => by
    refine z_aload_n C 71 d_M_lookBefore_70 rfl l0 ?_
    refine zm_get C 74 f_M_17 d_M_lookBefore_71 rfl hn rfl ?_
    refine z_iload_n C 75 d_M_lookBefore_74 rfl l1 ?_
    refine zm_iald C 76 (1200+i) d_M_lookBefore_75 rfl hn (by decide) (by decide) (by decide) rfl (by show 1200 + i < 1350; omega) (by decide) ?_
    rw [b87]
    refine z_bipush C 78 d_M_lookBefore_76 rfl 13 (by decide) ?_
    refine z_icmp_ne C 81 99 d_M_lookBefore_78 rfl (by decide) (fun _ => ?_) (fun h9 => absurd (nI_inj (b := 13) (by omega) (by omega) h9) h13)
    exact z_vret C rfl d_M_lookBefore_99 (by rw [hpo]; exact ⟨rfl, rfl, S', rfl, hr⟩) (by rw [hmc]; omega) (by rw [hms]; omega)
  have t70 : ∀ (S' : mS), mBo S0 A0 op res S' A → e.1 ≠ 12 → e.1 ≠ 13 → ∀ lv, zl lv 0 = some (.ref 85) → zl lv 1 = some (.int (nI (1200 + i))) → Z G K n (mOv S' A L rn σ) 0 0 38 lv [] := fun S' hr h12 h13 lv l0 l1 => by
    refine z_aload_n C 39 d_M_lookBefore_38 rfl l0 ?_
    refine zm_get C 42 f_M_17 d_M_lookBefore_39 rfl hn rfl ?_
    refine z_iload_n C 43 d_M_lookBefore_42 rfl l1 ?_
    refine zm_iald C 44 (1200+i) d_M_lookBefore_43 rfl hn (by decide) (by decide) (by decide) rfl (by show 1200 + i < 1350; omega) (by decide) ?_
    rw [b87]
    refine z_bipush C 46 d_M_lookBefore_44 rfl 12 (by decide) ?_
    refine z_icmp_ne C 49 70 d_M_lookBefore_46 rfl (by decide) (fun _ => ?_) (fun h9 => absurd (nI_inj (b := 12) (by omega) (by omega) h9) h12)
    exact t99 S' 0 0 hr h13 lv l0 l1
  by_cases k4 : e.1 = 4
  · rw [if_pos k4, hix] at hres
    have ex : A0 88 (1200 + i) = nI v0 := (tv (by omega) (by omega) (by omega) (by omega) (by omega) (by omega)).trans ev
    have evp : eVp e = e.2.1 + 1 := tq (Or.inl k4) (by omega)
    rw [ex, k4]
    refine z_icmp_ne C 17 38 d_M_lookBefore_14 rfl (by decide) (fun h9 => absurd (show nI 4 = 4 from rfl) h9) (fun _ => ?_)
    refine z_aload_n C 18 d_M_lookBefore_17 rfl rfl ?_
    refine zm_get C 21 f_M_67 d_M_lookBefore_18 rfl hn rfl ?_
    refine z_iload_n C 22 d_M_lookBefore_21 rfl rfl ?_
    refine zm_iald C 23 v0 d_M_lookBefore_22 rfl hn (by decide) (by decide) (by decide) rfl (by show v0 < 20; omega) (by decide) ?_
    rw [h103]
    by_cases q1 : s.1 v0 < 0
    · rw [if_pos q1] at hres
      refine z_if_lt C 26 38 d_M_lookBefore_23 rfl (by decide) (fun _ => ?_) (fun h9 => absurd q1 h9)
      exact t70 S (by rw [← hres]; exact hm0) (by omega) (by omega) _ rfl rfl
    · rw [if_neg q1] at hres
      refine z_if_lt C 26 38 d_M_lookBefore_23 rfl (by decide) (fun h9 => absurd h9 q1) (fun _ => ?_)
      refine z_aload_n C 27 d_M_lookBefore_26 rfl rfl ?_
      refine z_aload_n C 28 d_M_lookBefore_27 rfl rfl ?_
      refine zm_get C 31 f_M_24 d_M_lookBefore_28 rfl hn rfl ?_
      refine z_iload_n C 32 d_M_lookBefore_31 rfl rfl ?_
      refine zm_iald C 33 (1200+i) d_M_lookBefore_32 rfl hn (by decide) (by decide) (by decide) rfl (by show 1200 + i < 1350; omega) (by decide) ?_
      rw [b89]
      refine z_iconst C 34 d_M_lookBefore_33 rfl 1 (by decide) ?_
      refine z_iadd C 35 d_M_lookBefore_34 rfl ?_
      refine z_call C 38 (c_M_mistake hn (e.2.1 + 1)) w_M_mistake ini_M d_M_lookBefore_35 rfl (z_goV (As := [.int (e.2.1 + 1)]) C l_M_172 w_M_mistake d_M_lookBefore_35 (by omega) rfl rfl rfl) (Nat.le_of_ble_eq_true rfl) (by rw [hR]; simp only [zRm]; omega) (by rw [hR]; simp only [zRm]; omega) (by rw [hR]; simp only [zRm]; omega) (by rw [hR]; simp only [zRm]; omega) (fun v n' σ' hv => ?_) (fun x n' σ' hv => ?_)
      rotate_left
      · cases hv.1
      obtain ⟨e0, e1, rfl⟩ := hv
      cases e0
      obtain rfl : n = n' := e1.symm
      rw [if_pos (by rw [h27]; decide)]
      exact t70 _ (by rw [← hres]; exact ⟨by rw [evp]; rfl, (fun k a b c => by simp only [upd, if_neg a, if_neg b, if_neg c]; exact hk0 k a b c), hA0⟩) (by omega) (by omega) _ rfl rfl
  rw [if_neg k4] at hres
  refine z_icmp_ne C 17 38 d_M_lookBefore_14 rfl (by decide) (fun _ => ?_) (fun h9 => absurd (nI_inj (b := 4) (by omega) (by omega) h9) k4)
  by_cases k12 : e.1 = 12
  · rw [if_pos k12] at hres
    have ex : A0 88 (1200 + i) = nI v0 := (tv (by omega) (by omega) (by omega) (by omega) (by omega) (by omega)).trans ev
    have evp : eVp e = e.2.1 + 1 := tq (Or.inr (by omega)) (by omega)
    rw [ex]
    refine z_aload_n C 39 d_M_lookBefore_38 rfl rfl ?_
    refine zm_get C 42 f_M_17 d_M_lookBefore_39 rfl hn rfl ?_
    refine z_iload_n C 43 d_M_lookBefore_42 rfl rfl ?_
    refine zm_iald C 44 (1200+i) d_M_lookBefore_43 rfl hn (by decide) (by decide) (by decide) rfl (by show 1200 + i < 1350; omega) (by decide) ?_
    rw [b87, k12]
    refine z_bipush C 46 d_M_lookBefore_44 rfl 12 (by decide) ?_
    refine z_icmp_ne C 49 70 d_M_lookBefore_46 rfl (by decide) (fun h9 => absurd (show nI 12 = 12 from rfl) h9) (fun _ => ?_)
    refine z_aload_n C 50 d_M_lookBefore_49 rfl rfl ?_
    refine z_iload_n C 51 d_M_lookBefore_50 rfl rfl ?_
    refine z_aload_n C 52 d_M_lookBefore_51 rfl rfl ?_
    refine zm_get C 55 f_M_24 d_M_lookBefore_52 rfl hn rfl ?_
    refine z_iload_n C 56 d_M_lookBefore_55 rfl rfl ?_
    refine zm_iald C 57 (1200+i) d_M_lookBefore_56 rfl hn (by decide) (by decide) (by decide) rfl (by show 1200 + i < 1350; omega) (by decide) ?_
    rw [b89]
    refine z_iconst C 58 d_M_lookBefore_57 rfl 1 (by decide) ?_
    refine z_iadd C 59 d_M_lookBefore_58 rfl ?_
    refine z_bipush C 61 d_M_lookBefore_59 rfl 6 (by decide) ?_
    refine z_call C 64 (c_M_use hn hv20 (e.2.1 + 1) 6) w_M_use ini_M d_M_lookBefore_61 rfl (z_goV (As := [.int (nI v0), .int (e.2.1 + 1), .int 6]) C l_M_178 w_M_use d_M_lookBefore_61 (by omega) rfl rfl rfl) (Nat.le_of_ble_eq_true rfl) (by rw [hR]; simp only [zRm]; omega) (by rw [hR]; simp only [zRm]; omega) (by rw [hR]; simp only [zRm]; omega) (by rw [hR]; simp only [zRm]; omega) (fun v n' σ' hv => ?_) (fun x n' σ' hv => ?_)
    rotate_left
    · cases hv.1
    obtain ⟨e0, e1, rfl⟩ := hv
    cases e0
    obtain rfl : n = n' := e1.symm
    refine z_istore_n C 65 d_M_lookBefore_64 rfl (by decide) ?_
    refine z_aload_n C 66 d_M_lookBefore_65 rfl rfl ?_
    refine z_iload_n C 67 d_M_lookBefore_66 rfl rfl ?_
    refine z_call C 70 (c_M_useUp hn (nI v0)) w_M_useUp ini_M d_M_lookBefore_67 rfl (z_goV (As := [.int (nI v0)]) C l_M_181 w_M_useUp d_M_lookBefore_67 (by omega) rfl rfl rfl) (Nat.le_of_ble_eq_true rfl) (by rw [hR]; simp only [zRm]; omega) (by rw [hR]; simp only [zRm]; omega) (by rw [hR]; simp only [zRm]; omega) (by rw [hR]; simp only [zRm]; omega) (fun v n' σ' hv => ?_) (fun x n' σ' hv => ?_)
    rotate_left
    · cases hv.1
    obtain ⟨e0, e1, rfl⟩ := hv
    cases e0
    obtain rfl : n = n' := e1.symm
    unfold lUse lVar at hres
    rw [hix, ev] at hres
    by_cases q1 : lBad s.2 (s.1 v0) (nI v0) 6
    · rw [if_pos q1] at hres
      rw [if_pos (show lBad (S 26) (A 103 v0) (nI v0) 6 by rw [h26, h103]; exact q1), if_pos (by rw [h27]; decide)]
      exact t99 _ 0 0 (by rw [← hres]; exact ⟨by rw [evp]; rfl, (fun k a b c => by simp only [upd, if_neg a, if_neg b, if_neg c]; exact hk0 k a b c), hA0⟩) (by omega) _ rfl rfl
    · rw [if_neg q1] at hres
      rw [if_neg (show ¬ lBad (S 26) (A 103 v0) (nI v0) 6 by rw [h26, h103]; exact q1)]
      exact t99 _ 0 0 (by rw [← hres]; exact ⟨h27, by show S 26 &&& _ = _; rw [h26]; rfl, h19, h103, (fun k a b c => by simp only [upd, if_neg a, if_neg b, if_neg c]; exact hk0 k a b c), hA0⟩) (by omega) _ rfl rfl
  rw [if_neg k12] at hres
  by_cases k13 : e.1 = 13
  · rw [if_pos k13, hig] at hres
    have ex : A0 88 (1200 + i) = nI g := (t13 k13).trans eg
    refine z_aload_n C 39 d_M_lookBefore_38 rfl rfl ?_
    refine zm_get C 42 f_M_17 d_M_lookBefore_39 rfl hn rfl ?_
    refine z_iload_n C 43 d_M_lookBefore_42 rfl rfl ?_
    refine zm_iald C 44 (1200+i) d_M_lookBefore_43 rfl hn (by decide) (by decide) (by decide) rfl (by show 1200 + i < 1350; omega) (by decide) ?_
    rw [b87]
    refine z_bipush C 46 d_M_lookBefore_44 rfl 12 (by decide) ?_
    refine z_icmp_ne C 49 70 d_M_lookBefore_46 rfl (by decide) (fun _ => ?_) (fun h9 => absurd (nI_inj (b := 12) (by omega) (by omega) h9) k12)
    refine z_aload_n C 71 d_M_lookBefore_70 rfl rfl ?_
    refine zm_get C 74 f_M_17 d_M_lookBefore_71 rfl hn rfl ?_
    refine z_iload_n C 75 d_M_lookBefore_74 rfl rfl ?_
    refine zm_iald C 76 (1200+i) d_M_lookBefore_75 rfl hn (by decide) (by decide) (by decide) rfl (by show 1200 + i < 1350; omega) (by decide) ?_
    rw [b87, k13]
    refine z_bipush C 78 d_M_lookBefore_76 rfl 13 (by decide) ?_
    refine z_icmp_ne C 81 99 d_M_lookBefore_78 rfl (by decide) (fun h9 => absurd (show nI 13 = 13 from rfl) h9) (fun _ => ?_)
    refine z_aload_n C 82 d_M_lookBefore_81 rfl rfl ?_
    refine z_iload_n C 83 d_M_lookBefore_82 rfl rfl ?_
    have CD := c_M_called (G := G) (l := kl K) (L := L) (rn := rn) (σ := σ) (S := S) (A := A) hn henv (hk0 28 (by decide) (by decide) (by decide)) (fun a ha => hA0 a (Or.inl ha)) hi hg8 ex a90 hc4
    refine z_call C 86 (CD) w_M_called ini_M d_M_lookBefore_83 rfl (z_goV (As := [.int (nI (1200 + i))]) C l_M_184 w_M_called d_M_lookBefore_83 (by omega) rfl rfl rfl) (Nat.le_of_ble_eq_true rfl) (by rw [hR]; simp only [zRm]; omega) (by rw [hR]; simp only [zRm]; omega) (by rw [hR]; simp only [zRm]; omega) (by rw [hR]; simp only [zRm]; omega) (fun v n' σ' hv => ?_) (fun x n' σ' hv => ?_)
    rotate_left
    · cases hv.1
    obtain ⟨e0, e1, rfl⟩ := hv
    cases e0
    obtain rfl : n = n' := e1.symm
    have wr : res = .inl e.2.1 → Z G K n (mOv S A L rn σ) 0 0 89 [(2, .int (A0 88 (1200 + i))), (0, .ref 85), (1, .int (nI (1200 + i)))] [] := fun hr => by
      refine z_aload_n C 90 d_M_lookBefore_89 rfl rfl ?_
      refine z_aload_n C 91 d_M_lookBefore_90 rfl rfl ?_
      refine zm_get C 94 f_M_24 d_M_lookBefore_91 rfl hn rfl ?_
      refine z_iload_n C 95 d_M_lookBefore_94 rfl rfl ?_
      refine zm_iald C 96 (1200+i) d_M_lookBefore_95 rfl hn (by decide) (by decide) (by decide) rfl (by show 1200 + i < 1350; omega) (by decide) ?_
      rw [b89]
      refine z_call C 99 (c_M_mistake hn e.2.1) w_M_mistake ini_M d_M_lookBefore_96 rfl (z_goV (As := [.int e.2.1]) C l_M_172 w_M_mistake d_M_lookBefore_96 (by omega) rfl rfl rfl) (Nat.le_of_ble_eq_true rfl) (by rw [hR]; simp only [zRm]; omega) (by rw [hR]; simp only [zRm]; omega) (by rw [hR]; simp only [zRm]; omega) (by rw [hR]; simp only [zRm]; omega) (fun v n' σ' hv => ?_) (fun x n' σ' hv => ?_)
      rotate_left
      · cases hv.1
      obtain ⟨e0, e1, rfl⟩ := hv
      cases e0
      obtain rfl : n = n' := e1.symm
      rw [if_pos (by rw [h27]; decide)]
      exact z_vret C rfl d_M_lookBefore_99 (by rw [hpo]; exact ⟨rfl, rfl, _, rfl, by rw [hr]; exact ⟨rfl, (fun k a b c => by simp only [upd, if_neg a, if_neg b, if_neg c]; exact hk0 k a b c), hA0⟩⟩) (by rw [hmc]; omega) (by rw [hms]; omega)
    unfold lCd
    cases hcl : cl g with
    | none =>
      rw [hcl] at hres
      refine z_if_ge C 89 99 d_M_lookBefore_86 rfl (by decide) (fun h9 => absurd h9 (show ¬ (0 : Int32) ≤ -1 by decide)) (fun _ => ?_)
      exact wr hres.symm
    | some a =>
      obtain ⟨a, c, Y, rt⟩ := a
      rw [hcl] at hres
      dsimp only at hres ⊢
      by_cases q1 : c = e.2.2.2.1
      · rw [if_pos q1] at hres ⊢
        have hx9 : mIx f g < 9 := by unfold mIx; split <;> omega
        refine z_if_ge C 89 99 d_M_lookBefore_86 rfl (by decide) (fun _ => ?_) (fun h9 => absurd (nI_pos' (by omega)) h9)
        exact z_vret C rfl d_M_lookBefore_99 (by rw [hpo]; exact ⟨rfl, rfl, S, rfl, by rw [← hres]; exact hm0⟩) (by rw [hmc]; omega) (by rw [hms]; omega)
      · rw [if_neg q1] at hres ⊢
        refine z_if_ge C 89 99 d_M_lookBefore_86 rfl (by decide) (fun h9 => absurd h9 (show ¬ (0 : Int32) ≤ -1 by decide)) (fun _ => ?_)
        exact wr hres.symm
  rw [if_neg k13] at hres
  exact t70 S (by rw [← hres]; exact hm0) k12 k13 _ rfl rfl
/-- the check of the callee has been done -/
def lCok (cl : Nat → Option cF) (e : eN) : Prop := e.1 = 13 → ∃ a Y rt, cl (cIx (eNm e)) = some (a, e.2.2.2.1, Y, rt)
theorem c_M_typeOf (hn : 113 ≤ n) (henv : mEnv S0 A0 cl f) (hm : mCk S0 A0 s op S A) (hN : mNd A0 i e) (hok : lCok cl e) (t : Int32) : MetZ G l y_M_typeOf b_M_typeOf 5 (some .int) [] 2 0 0 [.ref 85, .int (nI (1200 + i)), .int t] n (mOv S A L rn σ) (fun o n' σ' => n' = n ∧ ∃ S', σ' = mOv S' A L rn σ ∧ match lkT cl e t s with
    | .inl q => (∃ v, o = .returned (some (.int v))) ∧ mWr S0 A0 q S' A
    | .inr (t', s') => o = .returned (some (.int t')) ∧ mCk S0 A0 s' op S' A) := by
  have hm0 := hm
  obtain ⟨h27, h26, h19, h103, hk0, hA0⟩ := hm
  obtain ⟨hi, hK14, a87, a90, a89, ⟨⟨v0, hv20, ev⟩, ⟨g, hg8, eg⟩, t0, t2, t13, tv, tp, tq⟩, hcn, hc4⟩ := hN
  have b87 : A 87 (1200 + i) = nI e.1 := by rw [hA0 87 (by omega)]; exact a87
  have b88 : A 88 (1200 + i) = A0 88 (1200 + i) := by rw [hA0 88 (by omega)]
  have b89 : A 89 (1200 + i) = e.2.1 := by rw [hA0 89 (by omega)]; exact a89
  have b90 : A 90 (1200 + i) = nI e.2.2.2.1 := by rw [hA0 90 (by omega)]; exact a90
  have hix : cIx (eVr e) = v0 := by rw [ev]; exact nI_clamp (by omega)
  have hig : cIx (eNm e) = g := by rw [eg]; exact nI_clamp (by omega)
  have hlb : ∀ wt, lBad (S 26) (A 103 v0) (nI v0) wt ↔ lBad s.2 (s.1 v0) (nI v0) wt := fun wt => by rw [h26, h103]
  obtain ⟨res, hres⟩ : ∃ x, lkT cl e t s = x := ⟨_, rfl⟩
  rw [hres]
  unfold lkT at hres
  refine MetZ.of (by decide) (Nat.le_of_ble_eq_true rfl) (fun K hK hR hpo hmc hms C => ?_)
  refine z_aload_n C 1 d_M_typeOf_0 rfl rfl ?_
  refine zm_get C 4 f_M_21 d_M_typeOf_1 rfl hn rfl ?_
  refine z_iload_n C 5 d_M_typeOf_4 rfl rfl ?_
  refine zm_iald C 6 (1200+i) d_M_typeOf_5 rfl hn (by decide) (by decide) (by decide) rfl (by show 1200 + i < 1350; omega) (by decide) ?_
  rw [b88]
  refine z_istore_n C 7 d_M_typeOf_6 rfl (by decide) ?_
  refine z_aload_n C 8 d_M_typeOf_7 rfl rfl ?_
  refine zm_get C 11 f_M_17 d_M_typeOf_8 rfl hn rfl ?_
  refine z_iload_n C 12 d_M_typeOf_11 rfl rfl ?_
  refine zm_iald C 13 (1200+i) d_M_typeOf_12 rfl hn (by decide) (by decide) (by decide) rfl (by show 1200 + i < 1350; omega) (by decide) ?_
  rw [b87]
  have hcase : e.1 = 0 ∨ e.1 = 1 ∨ e.1 = 2 ∨ e.1 = 3 ∨ e.1 = 4 ∨ e.1 = 5 ∨ e.1 = 6 ∨ e.1 = 7 ∨ e.1 = 8 ∨ e.1 = 9 ∨ e.1 = 10 ∨ e.1 = 11 ∨ e.1 = 12 ∨ e.1 = 13 := by omega
  rcases hcase with hk | hk | hk | hk | hk | hk | hk | hk | hk | hk | hk | hk | hk | hk
  · rw [if_neg (show ¬ e.1 = 1 by omega), if_neg (show ¬ e.1 = 3 by omega), if_neg (show ¬ e.1 = 4 by omega), if_neg (show ¬ e.1 = 5 by omega), if_neg (show ¬ e.1 = 6 by omega), if_neg (show ¬ e.1 = 7 by omega), if_neg (show ¬ e.1 = 8 by omega), if_neg (show ¬ e.1 = 9 by omega), if_neg (show ¬ e.1 = 10 by omega), if_neg (show ¬ e.1 = 11 by omega), if_neg (show ¬ e.1 = 12 by omega), if_neg (show ¬ e.1 = 13 by omega)] at hres
    rw [hk]
    refine z_tableOut C 239 d_M_typeOf_13 (by decide) (by decide) ?_
    refine z_iconst C 240 d_M_typeOf_239 rfl 0 (by decide) ?_
    exact z_iret C rfl d_M_typeOf_240 (by rw [hpo]; exact (by rw [← hres]; exact ⟨rfl, S, rfl, rfl, hm0⟩)) (by rw [hmc]; omega) (by rw [hms]; omega)
  · rw [if_pos hk] at hres
    rw [hk]
    refine z_tableIn C 80 d_M_typeOf_13 (by decide) (by decide) (off := 67) (by decide) (by decide) ?_
    have ex : A0 88 (1200 + i) = nI v0 := (tv (by omega) (by omega) (by omega) (by omega) (by omega) (by omega)).trans ev
    rw [ex]
    have evp : eVp e = e.2.1 := tp (by omega)
    refine z_aload_n C 81 d_M_typeOf_80 rfl rfl ?_
    refine z_iload_n C 82 d_M_typeOf_81 rfl rfl ?_
    refine z_aload_n C 83 d_M_typeOf_82 rfl rfl ?_
    refine zm_get C 86 f_M_24 d_M_typeOf_83 rfl hn rfl ?_
    refine z_iload_n C 87 d_M_typeOf_86 rfl rfl ?_
    refine zm_iald C 88 (1200+i) d_M_typeOf_87 rfl hn (by decide) (by decide) (by decide) rfl (by show 1200 + i < 1350; omega) (by decide) ?_
    rw [b89]
    refine z_bipush C 90 d_M_typeOf_88 rfl 7 (by decide) ?_
    refine z_call C 93 (c_M_use hn hv20 e.2.1 7) w_M_use ini_M d_M_typeOf_90 rfl (z_goV (As := [.int (nI v0), .int e.2.1, .int 7]) C l_M_178 w_M_use d_M_typeOf_90 (by omega) rfl rfl rfl) (Nat.le_of_ble_eq_true rfl) (by rw [hR]; simp only [zRm]; omega) (by rw [hR]; simp only [zRm]; omega) (by rw [hR]; simp only [zRm]; omega) (by rw [hR]; simp only [zRm]; omega) (fun v n' σ' hv => ?_) (fun x n' σ' hv => ?_)
    rotate_left
    · cases hv.1
    obtain ⟨e0, e1, rfl⟩ := hv
    cases e0
    obtain rfl : n = n' := e1.symm
    unfold lUse lVar at hres
    rw [hix, ev] at hres
    by_cases q1 : lBad s.2 (s.1 v0) (nI v0) 7
    · rw [if_pos q1] at hres
      rw [if_pos ((hlb 7).mpr q1), if_pos (by rw [h27]; decide)]
      refine z_istore C 95 d_M_typeOf_93 rfl (by decide) ?_
      refine z_aload_n C 96 d_M_typeOf_95 rfl rfl ?_
      refine z_iload_n C 97 d_M_typeOf_96 rfl rfl ?_
      refine z_call C 100 (c_M_useUp hn (nI v0)) w_M_useUp ini_M d_M_typeOf_97 rfl (z_goV (As := [.int (nI v0)]) C l_M_181 w_M_useUp d_M_typeOf_97 (by omega) rfl rfl rfl) (Nat.le_of_ble_eq_true rfl) (by rw [hR]; simp only [zRm]; omega) (by rw [hR]; simp only [zRm]; omega) (by rw [hR]; simp only [zRm]; omega) (by rw [hR]; simp only [zRm]; omega) (fun v n' σ' hv => ?_) (fun x n' σ' hv => ?_)
      rotate_left
      · cases hv.1
      obtain ⟨e0, e1, rfl⟩ := hv
      cases e0
      obtain rfl : n = n' := e1.symm
      refine z_iload C 102 d_M_typeOf_100 rfl rfl ?_
      exact z_iret C rfl d_M_typeOf_102 (by rw [hpo]; exact (by rw [← hres]; exact ⟨rfl, _, rfl, ⟨_, rfl⟩, by rw [evp]; rfl, (fun k a b c => by simp only [upd, if_neg a, if_neg b, if_neg c]; exact hk0 k a b c), hA0⟩)) (by rw [hmc]; omega) (by rw [hms]; omega)
    · rw [if_neg q1] at hres
      rw [if_neg (fun q => q1 ((hlb 7).mp q))]
      refine z_istore C 95 d_M_typeOf_93 rfl (by decide) ?_
      refine z_aload_n C 96 d_M_typeOf_95 rfl rfl ?_
      refine z_iload_n C 97 d_M_typeOf_96 rfl rfl ?_
      refine z_call C 100 (c_M_useUp hn (nI v0)) w_M_useUp ini_M d_M_typeOf_97 rfl (z_goV (As := [.int (nI v0)]) C l_M_181 w_M_useUp d_M_typeOf_97 (by omega) rfl rfl rfl) (Nat.le_of_ble_eq_true rfl) (by rw [hR]; simp only [zRm]; omega) (by rw [hR]; simp only [zRm]; omega) (by rw [hR]; simp only [zRm]; omega) (by rw [hR]; simp only [zRm]; omega) (fun v n' σ' hv => ?_) (fun x n' σ' hv => ?_)
      rotate_left
      · cases hv.1
      obtain ⟨e0, e1, rfl⟩ := hv
      cases e0
      obtain rfl : n = n' := e1.symm
      refine z_iload C 102 d_M_typeOf_100 rfl rfl ?_
      exact z_iret C rfl d_M_typeOf_102 (by rw [hpo]; exact (by rw [← hres]; exact ⟨rfl, _, rfl, by rw [h103], h27, by show S 26 &&& _ = _; rw [h26]; rfl, h19, h103, (fun k a b c => by simp only [upd, if_neg a, if_neg b, if_neg c]; exact hk0 k a b c), hA0⟩)) (by rw [hmc]; omega) (by rw [hms]; omega)
  · rw [if_neg (show ¬ e.1 = 1 by omega), if_neg (show ¬ e.1 = 3 by omega), if_neg (show ¬ e.1 = 4 by omega), if_neg (show ¬ e.1 = 5 by omega), if_neg (show ¬ e.1 = 6 by omega), if_neg (show ¬ e.1 = 7 by omega), if_neg (show ¬ e.1 = 8 by omega), if_neg (show ¬ e.1 = 9 by omega), if_neg (show ¬ e.1 = 10 by omega), if_neg (show ¬ e.1 = 11 by omega), if_neg (show ¬ e.1 = 12 by omega), if_neg (show ¬ e.1 = 13 by omega)] at hres
    rw [hk]
    refine z_tableIn C 239 d_M_typeOf_13 (by decide) (by decide) (off := 226) (by decide) (by decide) ?_
    refine z_iconst C 240 d_M_typeOf_239 rfl 0 (by decide) ?_
    exact z_iret C rfl d_M_typeOf_240 (by rw [hpo]; exact (by rw [← hres]; exact ⟨rfl, S, rfl, rfl, hm0⟩)) (by rw [hmc]; omega) (by rw [hms]; omega)
  · rw [if_neg (show ¬ e.1 = 1 by omega), if_pos hk] at hres
    rw [hk]
    refine z_tableIn C 103 d_M_typeOf_13 (by decide) (by decide) (off := 90) (by decide) (by decide) ?_
    refine z_iload_n C 104 d_M_typeOf_103 rfl rfl ?_
    exact z_iret C rfl d_M_typeOf_104 (by rw [hpo]; exact (by rw [← hres]; exact ⟨rfl, S, rfl, rfl, hm0⟩)) (by rw [hmc]; omega) (by rw [hms]; omega)
  · rw [if_neg (show ¬ e.1 = 1 by omega), if_neg (show ¬ e.1 = 3 by omega), if_pos hk] at hres
    rw [hk]
    refine z_tableIn C 103 d_M_typeOf_13 (by decide) (by decide) (off := 90) (by decide) (by decide) ?_
    refine z_iload_n C 104 d_M_typeOf_103 rfl rfl ?_
    exact z_iret C rfl d_M_typeOf_104 (by rw [hpo]; exact (by rw [← hres]; exact ⟨rfl, S, rfl, rfl, hm0⟩)) (by rw [hmc]; omega) (by rw [hms]; omega)
  · rw [if_neg (show ¬ e.1 = 1 by omega), if_neg (show ¬ e.1 = 3 by omega), if_neg (show ¬ e.1 = 4 by omega), if_pos hk] at hres
    rw [hk]
    refine z_tableIn C 105 d_M_typeOf_13 (by decide) (by decide) (off := 92) (by decide) (by decide) ?_
    refine z_iconst C 106 d_M_typeOf_105 rfl 1 (by decide) ?_
    exact z_iret C rfl d_M_typeOf_106 (by rw [hpo]; exact (by rw [← hres]; exact ⟨rfl, S, rfl, rfl, hm0⟩)) (by rw [hmc]; omega) (by rw [hms]; omega)
  · rw [if_neg (show ¬ e.1 = 1 by omega), if_neg (show ¬ e.1 = 3 by omega), if_neg (show ¬ e.1 = 4 by omega), if_neg (show ¬ e.1 = 5 by omega), if_pos hk] at hres
    rw [hk]
    refine z_tableIn C 107 d_M_typeOf_13 (by decide) (by decide) (off := 94) (by decide) (by decide) ?_
    refine z_iconst C 108 d_M_typeOf_107 rfl 2 (by decide) ?_
    exact z_iret C rfl d_M_typeOf_108 (by rw [hpo]; exact (by rw [← hres]; exact ⟨rfl, S, rfl, rfl, hm0⟩)) (by rw [hmc]; omega) (by rw [hms]; omega)
  · rw [if_neg (show ¬ e.1 = 1 by omega), if_neg (show ¬ e.1 = 3 by omega), if_neg (show ¬ e.1 = 4 by omega), if_neg (show ¬ e.1 = 5 by omega), if_neg (show ¬ e.1 = 6 by omega), if_pos hk] at hres
    rw [hk]
    refine z_tableIn C 109 d_M_typeOf_13 (by decide) (by decide) (off := 96) (by decide) (by decide) ?_
    have ex : A0 88 (1200 + i) = nI v0 := (tv (by omega) (by omega) (by omega) (by omega) (by omega) (by omega)).trans ev
    rw [ex]
    have evp : eVp e = e.2.1 := tp (by omega)
    refine z_aload_n C 110 d_M_typeOf_109 rfl rfl ?_
    refine z_iload_n C 111 d_M_typeOf_110 rfl rfl ?_
    refine z_aload_n C 112 d_M_typeOf_111 rfl rfl ?_
    refine zm_get C 115 f_M_24 d_M_typeOf_112 rfl hn rfl ?_
    refine z_iload_n C 116 d_M_typeOf_115 rfl rfl ?_
    refine zm_iald C 117 (1200+i) d_M_typeOf_116 rfl hn (by decide) (by decide) (by decide) rfl (by show 1200 + i < 1350; omega) (by decide) ?_
    rw [b89]
    refine z_aload_n C 118 d_M_typeOf_117 rfl rfl ?_
    refine zm_get C 121 f_M_27 d_M_typeOf_118 rfl hn rfl ?_
    refine z_iload_n C 122 d_M_typeOf_121 rfl rfl ?_
    refine zm_iald C 123 (1200+i) d_M_typeOf_122 rfl hn (by decide) (by decide) (by decide) rfl (by show 1200 + i < 1350; omega) (by decide) ?_
    rw [b90]
    refine z_iconst C 124 d_M_typeOf_123 rfl 1 (by decide) ?_
    by_cases qc : e.2.2.2.1 = 1
    · rw [if_pos qc] at hres
      refine z_icmp_ne C 127 131 d_M_typeOf_124 rfl (by decide) (fun h9 => absurd (show nI e.2.2.2.1 = 1 by rw [qc]; rfl) h9) (fun _ => ?_)
      refine z_iconst C 128 d_M_typeOf_127 rfl 2 (by decide) ?_
      refine z_goto C 132 d_M_typeOf_128 (by decide) ?_
      refine z_call C 135 (c_M_use hn hv20 e.2.1 2) w_M_use ini_M d_M_typeOf_132 rfl (z_goV (As := [.int (nI v0), .int e.2.1, .int 2]) C l_M_178 w_M_use d_M_typeOf_132 (by omega) rfl rfl rfl) (Nat.le_of_ble_eq_true rfl) (by rw [hR]; simp only [zRm]; omega) (by rw [hR]; simp only [zRm]; omega) (by rw [hR]; simp only [zRm]; omega) (by rw [hR]; simp only [zRm]; omega) (fun v n' σ' hv => ?_) (fun x n' σ' hv => ?_)
      rotate_left
      · cases hv.1
      obtain ⟨e0, e1, rfl⟩ := hv
      cases e0
      obtain rfl : n = n' := e1.symm
      unfold lVr0 lVar at hres
      rw [hix, ev] at hres
      by_cases q1 : lBad s.2 (s.1 v0) (nI v0) 2
      · rw [if_pos q1] at hres
        rw [if_pos ((hlb 2).mpr q1), if_pos (by rw [h27]; decide)]
        refine z_istore C 137 d_M_typeOf_135 rfl (by decide) ?_
        refine z_iconst C 138 d_M_typeOf_137 rfl 0 (by decide) ?_
        exact z_iret C rfl d_M_typeOf_138 (by rw [hpo]; exact (by rw [← hres]; exact ⟨rfl, _, rfl, ⟨_, rfl⟩, by rw [evp]; rfl, (fun k a b c => by simp only [upd, if_neg a, if_neg b, if_neg c]; exact hk0 k a b c), hA0⟩)) (by rw [hmc]; omega) (by rw [hms]; omega)
      · rw [if_neg q1] at hres
        rw [if_neg (fun q => q1 ((hlb 2).mp q))]
        refine z_istore C 137 d_M_typeOf_135 rfl (by decide) ?_
        refine z_iconst C 138 d_M_typeOf_137 rfl 0 (by decide) ?_
        exact z_iret C rfl d_M_typeOf_138 (by rw [hpo]; exact (by rw [← hres]; exact ⟨rfl, S, rfl, rfl, hm0⟩)) (by rw [hmc]; omega) (by rw [hms]; omega)
    · rw [if_neg qc] at hres
      refine z_icmp_ne C 127 131 d_M_typeOf_124 rfl (by decide) (fun _ => ?_) (fun h9 => absurd (nI_inj (b := 1) (by omega) (by omega) h9) qc)
      refine z_iconst C 132 d_M_typeOf_131 rfl 4 (by decide) ?_
      refine z_call C 135 (c_M_use hn hv20 e.2.1 4) w_M_use ini_M d_M_typeOf_132 rfl (z_goV (As := [.int (nI v0), .int e.2.1, .int 4]) C l_M_178 w_M_use d_M_typeOf_132 (by omega) rfl rfl rfl) (Nat.le_of_ble_eq_true rfl) (by rw [hR]; simp only [zRm]; omega) (by rw [hR]; simp only [zRm]; omega) (by rw [hR]; simp only [zRm]; omega) (by rw [hR]; simp only [zRm]; omega) (fun v n' σ' hv => ?_) (fun x n' σ' hv => ?_)
      rotate_left
      · cases hv.1
      obtain ⟨e0, e1, rfl⟩ := hv
      cases e0
      obtain rfl : n = n' := e1.symm
      unfold lVr0 lVar at hres
      rw [hix, ev] at hres
      by_cases q1 : lBad s.2 (s.1 v0) (nI v0) 4
      · rw [if_pos q1] at hres
        rw [if_pos ((hlb 4).mpr q1), if_pos (by rw [h27]; decide)]
        refine z_istore C 137 d_M_typeOf_135 rfl (by decide) ?_
        refine z_iconst C 138 d_M_typeOf_137 rfl 0 (by decide) ?_
        exact z_iret C rfl d_M_typeOf_138 (by rw [hpo]; exact (by rw [← hres]; exact ⟨rfl, _, rfl, ⟨_, rfl⟩, by rw [evp]; rfl, (fun k a b c => by simp only [upd, if_neg a, if_neg b, if_neg c]; exact hk0 k a b c), hA0⟩)) (by rw [hmc]; omega) (by rw [hms]; omega)
      · rw [if_neg q1] at hres
        rw [if_neg (fun q => q1 ((hlb 4).mp q))]
        refine z_istore C 137 d_M_typeOf_135 rfl (by decide) ?_
        refine z_iconst C 138 d_M_typeOf_137 rfl 0 (by decide) ?_
        exact z_iret C rfl d_M_typeOf_138 (by rw [hpo]; exact (by rw [← hres]; exact ⟨rfl, S, rfl, rfl, hm0⟩)) (by rw [hmc]; omega) (by rw [hms]; omega)
  · rw [if_neg (show ¬ e.1 = 1 by omega), if_neg (show ¬ e.1 = 3 by omega), if_neg (show ¬ e.1 = 4 by omega), if_neg (show ¬ e.1 = 5 by omega), if_neg (show ¬ e.1 = 6 by omega), if_neg (show ¬ e.1 = 7 by omega), if_pos hk] at hres
    rw [hk]
    refine z_tableIn C 139 d_M_typeOf_13 (by decide) (by decide) (off := 126) (by decide) (by decide) ?_
    have ex : A0 88 (1200 + i) = nI v0 := (tv (by omega) (by omega) (by omega) (by omega) (by omega) (by omega)).trans ev
    rw [ex]
    have evp : eVp e = e.2.1 := tp (by omega)
    refine z_aload_n C 140 d_M_typeOf_139 rfl rfl ?_
    refine z_iload_n C 141 d_M_typeOf_140 rfl rfl ?_
    refine z_aload_n C 142 d_M_typeOf_141 rfl rfl ?_
    refine zm_get C 145 f_M_24 d_M_typeOf_142 rfl hn rfl ?_
    refine z_iload_n C 146 d_M_typeOf_145 rfl rfl ?_
    refine zm_iald C 147 (1200+i) d_M_typeOf_146 rfl hn (by decide) (by decide) (by decide) rfl (by show 1200 + i < 1350; omega) (by decide) ?_
    rw [b89]
    refine z_aload_n C 148 d_M_typeOf_147 rfl rfl ?_
    refine zm_get C 151 f_M_27 d_M_typeOf_148 rfl hn rfl ?_
    refine z_iload_n C 152 d_M_typeOf_151 rfl rfl ?_
    refine zm_iald C 153 (1200+i) d_M_typeOf_152 rfl hn (by decide) (by decide) (by decide) rfl (by show 1200 + i < 1350; omega) (by decide) ?_
    rw [b90]
    refine z_iconst C 154 d_M_typeOf_153 rfl 2 (by decide) ?_
    by_cases qc : e.2.2.2.1 = 2
    · rw [if_pos qc] at hres
      refine z_icmp_ne C 157 161 d_M_typeOf_154 rfl (by decide) (fun h9 => absurd (show nI e.2.2.2.1 = 2 by rw [qc]; rfl) h9) (fun _ => ?_)
      refine z_iconst C 158 d_M_typeOf_157 rfl 2 (by decide) ?_
      refine z_goto C 162 d_M_typeOf_158 (by decide) ?_
      refine z_call C 165 (c_M_use hn hv20 e.2.1 2) w_M_use ini_M d_M_typeOf_162 rfl (z_goV (As := [.int (nI v0), .int e.2.1, .int 2]) C l_M_178 w_M_use d_M_typeOf_162 (by omega) rfl rfl rfl) (Nat.le_of_ble_eq_true rfl) (by rw [hR]; simp only [zRm]; omega) (by rw [hR]; simp only [zRm]; omega) (by rw [hR]; simp only [zRm]; omega) (by rw [hR]; simp only [zRm]; omega) (fun v n' σ' hv => ?_) (fun x n' σ' hv => ?_)
      rotate_left
      · cases hv.1
      obtain ⟨e0, e1, rfl⟩ := hv
      cases e0
      obtain rfl : n = n' := e1.symm
      unfold lUse lVar at hres
      rw [hix, ev] at hres
      by_cases q1 : lBad s.2 (s.1 v0) (nI v0) 2
      · rw [if_pos q1] at hres
        rw [if_pos ((hlb 2).mpr q1), if_pos (by rw [h27]; decide)]
        refine z_istore C 167 d_M_typeOf_165 rfl (by decide) ?_
        refine z_aload_n C 168 d_M_typeOf_167 rfl rfl ?_
        refine z_iload_n C 169 d_M_typeOf_168 rfl rfl ?_
        refine z_call C 172 (c_M_useUp hn (nI v0)) w_M_useUp ini_M d_M_typeOf_169 rfl (z_goV (As := [.int (nI v0)]) C l_M_181 w_M_useUp d_M_typeOf_169 (by omega) rfl rfl rfl) (Nat.le_of_ble_eq_true rfl) (by rw [hR]; simp only [zRm]; omega) (by rw [hR]; simp only [zRm]; omega) (by rw [hR]; simp only [zRm]; omega) (by rw [hR]; simp only [zRm]; omega) (fun v n' σ' hv => ?_) (fun x n' σ' hv => ?_)
        rotate_left
        · cases hv.1
        obtain ⟨e0, e1, rfl⟩ := hv
        cases e0
        obtain rfl : n = n' := e1.symm
        refine z_iload C 174 d_M_typeOf_172 rfl rfl ?_
        exact z_iret C rfl d_M_typeOf_174 (by rw [hpo]; exact (by rw [← hres]; exact ⟨rfl, _, rfl, ⟨_, rfl⟩, by rw [evp]; rfl, (fun k a b c => by simp only [upd, if_neg a, if_neg b, if_neg c]; exact hk0 k a b c), hA0⟩)) (by rw [hmc]; omega) (by rw [hms]; omega)
      · rw [if_neg q1] at hres
        rw [if_neg (fun q => q1 ((hlb 2).mp q))]
        refine z_istore C 167 d_M_typeOf_165 rfl (by decide) ?_
        refine z_aload_n C 168 d_M_typeOf_167 rfl rfl ?_
        refine z_iload_n C 169 d_M_typeOf_168 rfl rfl ?_
        refine z_call C 172 (c_M_useUp hn (nI v0)) w_M_useUp ini_M d_M_typeOf_169 rfl (z_goV (As := [.int (nI v0)]) C l_M_181 w_M_useUp d_M_typeOf_169 (by omega) rfl rfl rfl) (Nat.le_of_ble_eq_true rfl) (by rw [hR]; simp only [zRm]; omega) (by rw [hR]; simp only [zRm]; omega) (by rw [hR]; simp only [zRm]; omega) (by rw [hR]; simp only [zRm]; omega) (fun v n' σ' hv => ?_) (fun x n' σ' hv => ?_)
        rotate_left
        · cases hv.1
        obtain ⟨e0, e1, rfl⟩ := hv
        cases e0
        obtain rfl : n = n' := e1.symm
        refine z_iload C 174 d_M_typeOf_172 rfl rfl ?_
        exact z_iret C rfl d_M_typeOf_174 (by rw [hpo]; exact (by rw [← hres]; exact ⟨rfl, _, rfl, by rw [h103], h27, by show S 26 &&& _ = _; rw [h26]; rfl, h19, h103, (fun k a b c => by simp only [upd, if_neg a, if_neg b, if_neg c]; exact hk0 k a b c), hA0⟩)) (by rw [hmc]; omega) (by rw [hms]; omega)
    · rw [if_neg qc] at hres
      refine z_icmp_ne C 157 161 d_M_typeOf_154 rfl (by decide) (fun _ => ?_) (fun h9 => absurd (nI_inj (b := 2) (by omega) (by omega) h9) qc)
      refine z_iconst C 162 d_M_typeOf_161 rfl 4 (by decide) ?_
      refine z_call C 165 (c_M_use hn hv20 e.2.1 4) w_M_use ini_M d_M_typeOf_162 rfl (z_goV (As := [.int (nI v0), .int e.2.1, .int 4]) C l_M_178 w_M_use d_M_typeOf_162 (by omega) rfl rfl rfl) (Nat.le_of_ble_eq_true rfl) (by rw [hR]; simp only [zRm]; omega) (by rw [hR]; simp only [zRm]; omega) (by rw [hR]; simp only [zRm]; omega) (by rw [hR]; simp only [zRm]; omega) (fun v n' σ' hv => ?_) (fun x n' σ' hv => ?_)
      rotate_left
      · cases hv.1
      obtain ⟨e0, e1, rfl⟩ := hv
      cases e0
      obtain rfl : n = n' := e1.symm
      unfold lUse lVar at hres
      rw [hix, ev] at hres
      by_cases q1 : lBad s.2 (s.1 v0) (nI v0) 4
      · rw [if_pos q1] at hres
        rw [if_pos ((hlb 4).mpr q1), if_pos (by rw [h27]; decide)]
        refine z_istore C 167 d_M_typeOf_165 rfl (by decide) ?_
        refine z_aload_n C 168 d_M_typeOf_167 rfl rfl ?_
        refine z_iload_n C 169 d_M_typeOf_168 rfl rfl ?_
        refine z_call C 172 (c_M_useUp hn (nI v0)) w_M_useUp ini_M d_M_typeOf_169 rfl (z_goV (As := [.int (nI v0)]) C l_M_181 w_M_useUp d_M_typeOf_169 (by omega) rfl rfl rfl) (Nat.le_of_ble_eq_true rfl) (by rw [hR]; simp only [zRm]; omega) (by rw [hR]; simp only [zRm]; omega) (by rw [hR]; simp only [zRm]; omega) (by rw [hR]; simp only [zRm]; omega) (fun v n' σ' hv => ?_) (fun x n' σ' hv => ?_)
        rotate_left
        · cases hv.1
        obtain ⟨e0, e1, rfl⟩ := hv
        cases e0
        obtain rfl : n = n' := e1.symm
        refine z_iload C 174 d_M_typeOf_172 rfl rfl ?_
        exact z_iret C rfl d_M_typeOf_174 (by rw [hpo]; exact (by rw [← hres]; exact ⟨rfl, _, rfl, ⟨_, rfl⟩, by rw [evp]; rfl, (fun k a b c => by simp only [upd, if_neg a, if_neg b, if_neg c]; exact hk0 k a b c), hA0⟩)) (by rw [hmc]; omega) (by rw [hms]; omega)
      · rw [if_neg q1] at hres
        rw [if_neg (fun q => q1 ((hlb 4).mp q))]
        refine z_istore C 167 d_M_typeOf_165 rfl (by decide) ?_
        refine z_aload_n C 168 d_M_typeOf_167 rfl rfl ?_
        refine z_iload_n C 169 d_M_typeOf_168 rfl rfl ?_
        refine z_call C 172 (c_M_useUp hn (nI v0)) w_M_useUp ini_M d_M_typeOf_169 rfl (z_goV (As := [.int (nI v0)]) C l_M_181 w_M_useUp d_M_typeOf_169 (by omega) rfl rfl rfl) (Nat.le_of_ble_eq_true rfl) (by rw [hR]; simp only [zRm]; omega) (by rw [hR]; simp only [zRm]; omega) (by rw [hR]; simp only [zRm]; omega) (by rw [hR]; simp only [zRm]; omega) (fun v n' σ' hv => ?_) (fun x n' σ' hv => ?_)
        rotate_left
        · cases hv.1
        obtain ⟨e0, e1, rfl⟩ := hv
        cases e0
        obtain rfl : n = n' := e1.symm
        refine z_iload C 174 d_M_typeOf_172 rfl rfl ?_
        exact z_iret C rfl d_M_typeOf_174 (by rw [hpo]; exact (by rw [← hres]; exact ⟨rfl, _, rfl, by rw [h103], h27, by show S 26 &&& _ = _; rw [h26]; rfl, h19, h103, (fun k a b c => by simp only [upd, if_neg a, if_neg b, if_neg c]; exact hk0 k a b c), hA0⟩)) (by rw [hmc]; omega) (by rw [hms]; omega)
  · rw [if_neg (show ¬ e.1 = 1 by omega), if_neg (show ¬ e.1 = 3 by omega), if_neg (show ¬ e.1 = 4 by omega), if_neg (show ¬ e.1 = 5 by omega), if_neg (show ¬ e.1 = 6 by omega), if_neg (show ¬ e.1 = 7 by omega), if_neg (show ¬ e.1 = 8 by omega), if_pos hk] at hres
    rw [hk]
    refine z_tableIn C 175 d_M_typeOf_13 (by decide) (by decide) (off := 162) (by decide) (by decide) ?_
    have ex : A0 88 (1200 + i) = nI v0 := (tv (by omega) (by omega) (by omega) (by omega) (by omega) (by omega)).trans ev
    rw [ex]
    have evp : eVp e = e.2.1 + 1 := tq (by omega) (by omega)
    refine z_aload_n C 176 d_M_typeOf_175 rfl rfl ?_
    refine z_iload_n C 177 d_M_typeOf_176 rfl rfl ?_
    refine z_aload_n C 178 d_M_typeOf_177 rfl rfl ?_
    refine zm_get C 181 f_M_24 d_M_typeOf_178 rfl hn rfl ?_
    refine z_iload_n C 182 d_M_typeOf_181 rfl rfl ?_
    refine zm_iald C 183 (1200+i) d_M_typeOf_182 rfl hn (by decide) (by decide) (by decide) rfl (by show 1200 + i < 1350; omega) (by decide) ?_
    rw [b89]
    refine z_iconst C 184 d_M_typeOf_183 rfl 1 (by decide) ?_
    refine z_iadd C 185 d_M_typeOf_184 rfl ?_
    refine z_bipush C 187 d_M_typeOf_185 rfl 6 (by decide) ?_
    refine z_call C 190 (c_M_use hn hv20 (e.2.1 + 1) 6) w_M_use ini_M d_M_typeOf_187 rfl (z_goV (As := [.int (nI v0), .int (e.2.1 + 1), .int 6]) C l_M_178 w_M_use d_M_typeOf_187 (by omega) rfl rfl rfl) (Nat.le_of_ble_eq_true rfl) (by rw [hR]; simp only [zRm]; omega) (by rw [hR]; simp only [zRm]; omega) (by rw [hR]; simp only [zRm]; omega) (by rw [hR]; simp only [zRm]; omega) (fun v n' σ' hv => ?_) (fun x n' σ' hv => ?_)
    rotate_left
    · cases hv.1
    obtain ⟨e0, e1, rfl⟩ := hv
    cases e0
    obtain rfl : n = n' := e1.symm
    unfold lVr0 lVar at hres
    rw [hix, ev] at hres
    by_cases q1 : lBad s.2 (s.1 v0) (nI v0) 6
    · rw [if_pos q1] at hres
      rw [if_pos ((hlb 6).mpr q1), if_pos (by rw [h27]; decide)]
      refine z_istore C 192 d_M_typeOf_190 rfl (by decide) ?_
      refine z_iconst C 193 d_M_typeOf_192 rfl 0 (by decide) ?_
      exact z_iret C rfl d_M_typeOf_193 (by rw [hpo]; exact (by rw [← hres]; exact ⟨rfl, _, rfl, ⟨_, rfl⟩, by rw [evp]; rfl, (fun k a b c => by simp only [upd, if_neg a, if_neg b, if_neg c]; exact hk0 k a b c), hA0⟩)) (by rw [hmc]; omega) (by rw [hms]; omega)
    · rw [if_neg q1] at hres
      rw [if_neg (fun q => q1 ((hlb 6).mp q))]
      refine z_istore C 192 d_M_typeOf_190 rfl (by decide) ?_
      refine z_iconst C 193 d_M_typeOf_192 rfl 0 (by decide) ?_
      exact z_iret C rfl d_M_typeOf_193 (by rw [hpo]; exact (by rw [← hres]; exact ⟨rfl, S, rfl, rfl, hm0⟩)) (by rw [hmc]; omega) (by rw [hms]; omega)
  · rw [if_neg (show ¬ e.1 = 1 by omega), if_neg (show ¬ e.1 = 3 by omega), if_neg (show ¬ e.1 = 4 by omega), if_neg (show ¬ e.1 = 5 by omega), if_neg (show ¬ e.1 = 6 by omega), if_neg (show ¬ e.1 = 7 by omega), if_neg (show ¬ e.1 = 8 by omega), if_neg (show ¬ e.1 = 9 by omega), if_pos hk] at hres
    rw [hk]
    refine z_tableIn C 194 d_M_typeOf_13 (by decide) (by decide) (off := 181) (by decide) (by decide) ?_
    have ex : A0 88 (1200 + i) = nI v0 := (tv (by omega) (by omega) (by omega) (by omega) (by omega) (by omega)).trans ev
    rw [ex]
    have evp : eVp e = e.2.1 + 1 := tq (by omega) (by omega)
    refine z_aload_n C 195 d_M_typeOf_194 rfl rfl ?_
    refine z_iload_n C 196 d_M_typeOf_195 rfl rfl ?_
    refine z_aload_n C 197 d_M_typeOf_196 rfl rfl ?_
    refine zm_get C 200 f_M_24 d_M_typeOf_197 rfl hn rfl ?_
    refine z_iload_n C 201 d_M_typeOf_200 rfl rfl ?_
    refine zm_iald C 202 (1200+i) d_M_typeOf_201 rfl hn (by decide) (by decide) (by decide) rfl (by show 1200 + i < 1350; omega) (by decide) ?_
    rw [b89]
    refine z_iconst C 203 d_M_typeOf_202 rfl 1 (by decide) ?_
    refine z_iadd C 204 d_M_typeOf_203 rfl ?_
    refine z_iconst C 205 d_M_typeOf_204 rfl 4 (by decide) ?_
    refine z_call C 208 (c_M_use hn hv20 (e.2.1 + 1) 4) w_M_use ini_M d_M_typeOf_205 rfl (z_goV (As := [.int (nI v0), .int (e.2.1 + 1), .int 4]) C l_M_178 w_M_use d_M_typeOf_205 (by omega) rfl rfl rfl) (Nat.le_of_ble_eq_true rfl) (by rw [hR]; simp only [zRm]; omega) (by rw [hR]; simp only [zRm]; omega) (by rw [hR]; simp only [zRm]; omega) (by rw [hR]; simp only [zRm]; omega) (fun v n' σ' hv => ?_) (fun x n' σ' hv => ?_)
    rotate_left
    · cases hv.1
    obtain ⟨e0, e1, rfl⟩ := hv
    cases e0
    obtain rfl : n = n' := e1.symm
    unfold lVr0 lVar at hres
    rw [hix, ev] at hres
    by_cases q1 : lBad s.2 (s.1 v0) (nI v0) 4
    · rw [if_pos q1] at hres
      rw [if_pos ((hlb 4).mpr q1), if_pos (by rw [h27]; decide)]
      refine z_istore C 210 d_M_typeOf_208 rfl (by decide) ?_
      refine z_iconst C 211 d_M_typeOf_210 rfl 0 (by decide) ?_
      exact z_iret C rfl d_M_typeOf_211 (by rw [hpo]; exact (by rw [← hres]; exact ⟨rfl, _, rfl, ⟨_, rfl⟩, by rw [evp]; rfl, (fun k a b c => by simp only [upd, if_neg a, if_neg b, if_neg c]; exact hk0 k a b c), hA0⟩)) (by rw [hmc]; omega) (by rw [hms]; omega)
    · rw [if_neg q1] at hres
      rw [if_neg (fun q => q1 ((hlb 4).mp q))]
      refine z_istore C 210 d_M_typeOf_208 rfl (by decide) ?_
      refine z_iconst C 211 d_M_typeOf_210 rfl 0 (by decide) ?_
      exact z_iret C rfl d_M_typeOf_211 (by rw [hpo]; exact (by rw [← hres]; exact ⟨rfl, S, rfl, rfl, hm0⟩)) (by rw [hmc]; omega) (by rw [hms]; omega)
  · rw [if_neg (show ¬ e.1 = 1 by omega), if_neg (show ¬ e.1 = 3 by omega), if_neg (show ¬ e.1 = 4 by omega), if_neg (show ¬ e.1 = 5 by omega), if_neg (show ¬ e.1 = 6 by omega), if_neg (show ¬ e.1 = 7 by omega), if_neg (show ¬ e.1 = 8 by omega), if_neg (show ¬ e.1 = 9 by omega), if_neg (show ¬ e.1 = 10 by omega), if_pos hk] at hres
    rw [hk]
    refine z_tableIn C 212 d_M_typeOf_13 (by decide) (by decide) (off := 199) (by decide) (by decide) ?_
    have ex : A0 88 (1200 + i) = nI v0 := (tv (by omega) (by omega) (by omega) (by omega) (by omega) (by omega)).trans ev
    rw [ex]
    have evp : eVp e = e.2.1 + 1 := tq (by omega) (by omega)
    refine z_aload_n C 213 d_M_typeOf_212 rfl rfl ?_
    refine z_iload_n C 214 d_M_typeOf_213 rfl rfl ?_
    refine z_aload_n C 215 d_M_typeOf_214 rfl rfl ?_
    refine zm_get C 218 f_M_24 d_M_typeOf_215 rfl hn rfl ?_
    refine z_iload_n C 219 d_M_typeOf_218 rfl rfl ?_
    refine zm_iald C 220 (1200+i) d_M_typeOf_219 rfl hn (by decide) (by decide) (by decide) rfl (by show 1200 + i < 1350; omega) (by decide) ?_
    rw [b89]
    refine z_iconst C 221 d_M_typeOf_220 rfl 1 (by decide) ?_
    refine z_iadd C 222 d_M_typeOf_221 rfl ?_
    refine z_bipush C 224 d_M_typeOf_222 rfl 6 (by decide) ?_
    refine z_call C 227 (c_M_use hn hv20 (e.2.1 + 1) 6) w_M_use ini_M d_M_typeOf_224 rfl (z_goV (As := [.int (nI v0), .int (e.2.1 + 1), .int 6]) C l_M_178 w_M_use d_M_typeOf_224 (by omega) rfl rfl rfl) (Nat.le_of_ble_eq_true rfl) (by rw [hR]; simp only [zRm]; omega) (by rw [hR]; simp only [zRm]; omega) (by rw [hR]; simp only [zRm]; omega) (by rw [hR]; simp only [zRm]; omega) (fun v n' σ' hv => ?_) (fun x n' σ' hv => ?_)
    rotate_left
    · cases hv.1
    obtain ⟨e0, e1, rfl⟩ := hv
    cases e0
    obtain rfl : n = n' := e1.symm
    unfold lVrT lVar at hres
    rw [hix, ev] at hres
    by_cases q1 : lBad s.2 (s.1 v0) (nI v0) 6
    · rw [if_pos q1] at hres
      rw [if_pos ((hlb 6).mpr q1), if_pos (by rw [h27]; decide)]
      exact z_iret C rfl d_M_typeOf_227 (by rw [hpo]; exact (by rw [← hres]; exact ⟨rfl, _, rfl, ⟨_, rfl⟩, by rw [evp]; rfl, (fun k a b c => by simp only [upd, if_neg a, if_neg b, if_neg c]; exact hk0 k a b c), hA0⟩)) (by rw [hmc]; omega) (by rw [hms]; omega)
    · rw [if_neg q1] at hres
      rw [if_neg (fun q => q1 ((hlb 6).mp q))]
      exact z_iret C rfl d_M_typeOf_227 (by rw [hpo]; exact (by rw [← hres]; exact ⟨rfl, S, rfl, by rw [h103], hm0⟩)) (by rw [hmc]; omega) (by rw [hms]; omega)
  · rw [if_neg (show ¬ e.1 = 1 by omega), if_neg (show ¬ e.1 = 3 by omega), if_neg (show ¬ e.1 = 4 by omega), if_neg (show ¬ e.1 = 5 by omega), if_neg (show ¬ e.1 = 6 by omega), if_neg (show ¬ e.1 = 7 by omega), if_neg (show ¬ e.1 = 8 by omega), if_neg (show ¬ e.1 = 9 by omega), if_neg (show ¬ e.1 = 10 by omega), if_neg (show ¬ e.1 = 11 by omega), if_pos hk] at hres
    rw [hk]
    refine z_tableIn C 103 d_M_typeOf_13 (by decide) (by decide) (off := 90) (by decide) (by decide) ?_
    refine z_iload_n C 104 d_M_typeOf_103 rfl rfl ?_
    exact z_iret C rfl d_M_typeOf_104 (by rw [hpo]; exact (by rw [← hres]; exact ⟨rfl, S, rfl, rfl, hm0⟩)) (by rw [hmc]; omega) (by rw [hms]; omega)
  · rw [if_neg (show ¬ e.1 = 1 by omega), if_neg (show ¬ e.1 = 3 by omega), if_neg (show ¬ e.1 = 4 by omega), if_neg (show ¬ e.1 = 5 by omega), if_neg (show ¬ e.1 = 6 by omega), if_neg (show ¬ e.1 = 7 by omega), if_neg (show ¬ e.1 = 8 by omega), if_neg (show ¬ e.1 = 9 by omega), if_neg (show ¬ e.1 = 10 by omega), if_neg (show ¬ e.1 = 11 by omega), if_neg (show ¬ e.1 = 12 by omega), if_pos hk] at hres
    rw [hk]
    refine z_tableIn C 228 d_M_typeOf_13 (by decide) (by decide) (off := 215) (by decide) (by decide) ?_
    rw [hig] at hres
    obtain ⟨a, Y, rt, hcl⟩ := hok hk
    rw [hig] at hcl
    rw [hcl] at hres
    have ex : A0 88 (1200 + i) = nI g := (t13 hk).trans eg
    have henv' := henv
    obtain ⟨-, hf8, hcls⟩ := henv
    have hrt : A 94 (mIx f g) = rt := by
      rcases hcls g hg8 with ⟨-, h1, -⟩ | ⟨-, a', cn', Y', rt', h1, h2, h3, -⟩
      · rw [hcl] at h1; cases h1
      · rw [hcl] at h1; cases h1; rw [hA0 94 (by omega)]; exact h3
    have hx9 : mIx f g < 9 := by unfold mIx; split <;> omega
    refine z_aload_n C 229 d_M_typeOf_228 rfl rfl ?_
    refine zm_get C 232 f_M_40 d_M_typeOf_229 rfl hn rfl ?_
    refine z_aload_n C 233 d_M_typeOf_232 rfl rfl ?_
    refine z_iload_n C 234 d_M_typeOf_233 rfl rfl ?_
    have CD := c_M_called (G := G) (l := kl K) (L := L) (rn := rn) (σ := σ) (S := S) (A := A) hn henv' (hk0 28 (by decide) (by decide) (by decide)) (fun a ha => hA0 a (Or.inl ha)) hi hg8 ex a90 hc4
    rw [show lCd cl f g e.2.2.2.1 = nI (mIx f g) by unfold lCd; rw [hcl]; exact if_pos rfl] at CD
    refine z_call C 237 (CD) w_M_called ini_M d_M_typeOf_234 rfl (z_goV (As := [.int (nI (1200 + i))]) C l_M_184 w_M_called d_M_typeOf_234 (by omega) rfl rfl rfl) (Nat.le_of_ble_eq_true rfl) (by rw [hR]; simp only [zRm]; omega) (by rw [hR]; simp only [zRm]; omega) (by rw [hR]; simp only [zRm]; omega) (by rw [hR]; simp only [zRm]; omega) (fun v n' σ' hv => ?_) (fun x n' σ' hv => ?_)
    rotate_left
    · cases hv.1
    obtain ⟨e0, e1, rfl⟩ := hv
    cases e0
    obtain rfl : n = n' := e1.symm
    refine zm_iald C 238 (mIx f g) d_M_typeOf_237 rfl hn (by decide) (by decide) (by decide) rfl (by show mIx f g < 9; omega) (by decide) ?_
    rw [hrt]
    exact z_iret C rfl d_M_typeOf_238 (by rw [hpo]; exact (by rw [← hres]; exact ⟨rfl, S, rfl, rfl, hm0⟩)) (by rw [hmc]; omega) (by rw [hms]; omega)
end MLB
