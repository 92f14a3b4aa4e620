theorem d_M_readFunction_0 : decode b_M_readFunction 0 = .ok (.aload_n 0, 1) := by decide +kernel
theorem d_M_readFunction_1 : decode b_M_readFunction 1 = .ok (.iconst 0, 1) := by decide +kernel
theorem d_M_readFunction_2 : decode b_M_readFunction 2 = .ok (.putfield 126, 3) := by decide +kernel
theorem d_M_readFunction_5 : decode b_M_readFunction 5 = .ok (.aload_n 0, 1) := by decide +kernel
theorem d_M_readFunction_6 : decode b_M_readFunction 6 = .ok (.getfield 37, 3) := by decide +kernel
theorem d_M_readFunction_9 : decode b_M_readFunction 9 = .ok (.bipush 8, 2) := by decide +kernel
theorem d_M_readFunction_11 : decode b_M_readFunction 11 = .ok (.iconst 0, 1) := by decide +kernel
theorem d_M_readFunction_12 : decode b_M_readFunction 12 = .ok (.iastore, 1) := by decide +kernel
theorem d_M_readFunction_13 : decode b_M_readFunction 13 = .ok (.aload_n 0, 1) := by decide +kernel
theorem d_M_readFunction_14 : decode b_M_readFunction 14 = .ok (.bipush 65, 2) := by decide +kernel
theorem d_M_readFunction_16 : decode b_M_readFunction 16 = .ok (.bipush 72, 2) := by decide +kernel
theorem d_M_readFunction_18 : decode b_M_readFunction 18 = .ok (.invokevirtual 132, 3) := by decide +kernel
theorem d_M_readFunction_21 : decode b_M_readFunction 21 = .ok (.istore_n 1, 1) := by decide +kernel
theorem d_M_readFunction_22 : decode b_M_readFunction 22 = .ok (.aload_n 0, 1) := by decide +kernel
theorem d_M_readFunction_23 : decode b_M_readFunction 23 = .ok (.aload_n 0, 1) := by decide +kernel
theorem d_M_readFunction_24 : decode b_M_readFunction 24 = .ok (.bipush 40, 2) := by decide +kernel
theorem d_M_readFunction_26 : decode b_M_readFunction 26 = .ok (.invokevirtual 140, 3) := by decide +kernel
theorem d_M_readFunction_29 : decode b_M_readFunction 29 = .ok (.invokevirtual 122, 3) := by decide +kernel
theorem d_M_readFunction_32 : decode b_M_readFunction 32 = .ok (.aload_n 0, 1) := by decide +kernel
theorem d_M_readFunction_33 : decode b_M_readFunction 33 = .ok (.bipush 41, 2) := by decide +kernel
theorem d_M_readFunction_35 : decode b_M_readFunction 35 = .ok (.invokevirtual 140, 3) := by decide +kernel
theorem d_M_readFunction_38 : decode b_M_readFunction 38 = .ok (.ifCond .ne 126, 3) := by decide +kernel
theorem d_M_readFunction_41 : decode b_M_readFunction 41 = .ok (.aload_n 0, 1) := by decide +kernel
theorem d_M_readFunction_42 : decode b_M_readFunction 42 = .ok (.getfield 104, 3) := by decide +kernel
theorem d_M_readFunction_45 : decode b_M_readFunction 45 = .ok (.ifCond .ne 7, 3) := by decide +kernel
theorem d_M_readFunction_48 : decode b_M_readFunction 48 = .ok (.iconst 1, 1) := by decide +kernel
theorem d_M_readFunction_49 : decode b_M_readFunction 49 = .ok (.goto 4, 3) := by decide +kernel
theorem d_M_readFunction_52 : decode b_M_readFunction 52 = .ok (.iconst 0, 1) := by decide +kernel
theorem d_M_readFunction_53 : decode b_M_readFunction 53 = .ok (.istore_n 2, 1) := by decide +kernel
theorem d_M_readFunction_54 : decode b_M_readFunction 54 = .ok (.iload_n 2, 1) := by decide +kernel
theorem d_M_readFunction_55 : decode b_M_readFunction 55 = .ok (.ifCond .eq 99, 3) := by decide +kernel
theorem d_M_readFunction_58 : decode b_M_readFunction 58 = .ok (.bipush 32, 2) := by decide +kernel
theorem d_M_readFunction_60 : decode b_M_readFunction 60 = .ok (.aload_n 0, 1) := by decide +kernel
theorem d_M_readFunction_61 : decode b_M_readFunction 61 = .ok (.getfield 37, 3) := by decide +kernel
theorem d_M_readFunction_64 : decode b_M_readFunction 64 = .ok (.bipush 8, 2) := by decide +kernel
theorem d_M_readFunction_66 : decode b_M_readFunction 66 = .ok (.iaload, 1) := by decide +kernel
theorem d_M_readFunction_67 : decode b_M_readFunction 67 = .ok (.iadd, 1) := by decide +kernel
theorem d_M_readFunction_68 : decode b_M_readFunction 68 = .ok (.istore_n 3, 1) := by decide +kernel
theorem d_M_readFunction_69 : decode b_M_readFunction 69 = .ok (.aload_n 0, 1) := by decide +kernel
theorem d_M_readFunction_70 : decode b_M_readFunction 70 = .ok (.getfield 49, 3) := by decide +kernel
theorem d_M_readFunction_73 : decode b_M_readFunction 73 = .ok (.iload_n 3, 1) := by decide +kernel
theorem d_M_readFunction_74 : decode b_M_readFunction 74 = .ok (.aload_n 0, 1) := by decide +kernel
theorem d_M_readFunction_75 : decode b_M_readFunction 75 = .ok (.getfield 108, 3) := by decide +kernel
theorem d_M_readFunction_78 : decode b_M_readFunction 78 = .ok (.iastore, 1) := by decide +kernel
theorem d_M_readFunction_79 : decode b_M_readFunction 79 = .ok (.aload_n 0, 1) := by decide +kernel
theorem d_M_readFunction_80 : decode b_M_readFunction 80 = .ok (.getfield 43, 3) := by decide +kernel
theorem d_M_readFunction_83 : decode b_M_readFunction 83 = .ok (.iload_n 3, 1) := by decide +kernel
theorem d_M_readFunction_84 : decode b_M_readFunction 84 = .ok (.aload_n 0, 1) := by decide +kernel
theorem d_M_readFunction_85 : decode b_M_readFunction 85 = .ok (.bipush 97, 2) := by decide +kernel
theorem d_M_readFunction_87 : decode b_M_readFunction 87 = .ok (.bipush 116, 2) := by decide +kernel
theorem d_M_readFunction_89 : decode b_M_readFunction 89 = .ok (.invokevirtual 132, 3) := by decide +kernel
theorem d_M_readFunction_92 : decode b_M_readFunction 92 = .ok (.iastore, 1) := by decide +kernel
theorem d_M_readFunction_93 : decode b_M_readFunction 93 = .ok (.aload_n 0, 1) := by decide +kernel
theorem d_M_readFunction_94 : decode b_M_readFunction 94 = .ok (.getfield 46, 3) := by decide +kernel
theorem d_M_readFunction_97 : decode b_M_readFunction 97 = .ok (.iload_n 3, 1) := by decide +kernel
theorem d_M_readFunction_98 : decode b_M_readFunction 98 = .ok (.aload_n 0, 1) := by decide +kernel
theorem d_M_readFunction_99 : decode b_M_readFunction 99 = .ok (.bipush 48, 2) := by decide +kernel
theorem d_M_readFunction_101 : decode b_M_readFunction 101 = .ok (.bipush 50, 2) := by decide +kernel
theorem d_M_readFunction_103 : decode b_M_readFunction 103 = .ok (.invokevirtual 132, 3) := by decide +kernel
theorem d_M_readFunction_106 : decode b_M_readFunction 106 = .ok (.iastore, 1) := by decide +kernel
theorem d_M_readFunction_107 : decode b_M_readFunction 107 = .ok (.aload_n 0, 1) := by decide +kernel
theorem d_M_readFunction_108 : decode b_M_readFunction 108 = .ok (.getfield 37, 3) := by decide +kernel
theorem d_M_readFunction_111 : decode b_M_readFunction 111 = .ok (.bipush 8, 2) := by decide +kernel
theorem d_M_readFunction_113 : decode b_M_readFunction 113 = .ok (.dup2, 1) := by decide +kernel
theorem d_M_readFunction_114 : decode b_M_readFunction 114 = .ok (.iaload, 1) := by decide +kernel
theorem d_M_readFunction_115 : decode b_M_readFunction 115 = .ok (.iconst 1, 1) := by decide +kernel
theorem d_M_readFunction_116 : decode b_M_readFunction 116 = .ok (.iadd, 1) := by decide +kernel
theorem d_M_readFunction_117 : decode b_M_readFunction 117 = .ok (.iastore, 1) := by decide +kernel
theorem d_M_readFunction_118 : decode b_M_readFunction 118 = .ok (.aload_n 0, 1) := by decide +kernel
theorem d_M_readFunction_119 : decode b_M_readFunction 119 = .ok (.getfield 104, 3) := by decide +kernel
theorem d_M_readFunction_122 : decode b_M_readFunction 122 = .ok (.ifCond .ne 27, 3) := by decide +kernel
theorem d_M_readFunction_125 : decode b_M_readFunction 125 = .ok (.aload_n 0, 1) := by decide +kernel
theorem d_M_readFunction_126 : decode b_M_readFunction 126 = .ok (.getfield 37, 3) := by decide +kernel
theorem d_M_readFunction_129 : decode b_M_readFunction 129 = .ok (.bipush 8, 2) := by decide +kernel
theorem d_M_readFunction_131 : decode b_M_readFunction 131 = .ok (.iaload, 1) := by decide +kernel
theorem d_M_readFunction_132 : decode b_M_readFunction 132 = .ok (.iconst 4, 1) := by decide +kernel
theorem d_M_readFunction_133 : decode b_M_readFunction 133 = .ok (.if_icmp .ge 16, 3) := by decide +kernel
theorem d_M_readFunction_136 : decode b_M_readFunction 136 = .ok (.aload_n 0, 1) := by decide +kernel
theorem d_M_readFunction_137 : decode b_M_readFunction 137 = .ok (.bipush 44, 2) := by decide +kernel
theorem d_M_readFunction_139 : decode b_M_readFunction 139 = .ok (.invokevirtual 140, 3) := by decide +kernel
theorem d_M_readFunction_142 : decode b_M_readFunction 142 = .ok (.ifCond .eq 7, 3) := by decide +kernel
theorem d_M_readFunction_145 : decode b_M_readFunction 145 = .ok (.iconst 1, 1) := by decide +kernel
theorem d_M_readFunction_146 : decode b_M_readFunction 146 = .ok (.goto 4, 3) := by decide +kernel
theorem d_M_readFunction_149 : decode b_M_readFunction 149 = .ok (.iconst 0, 1) := by decide +kernel
theorem d_M_readFunction_150 : decode b_M_readFunction 150 = .ok (.istore_n 2, 1) := by decide +kernel
theorem d_M_readFunction_151 : decode b_M_readFunction 151 = .ok (.goto (-97), 3) := by decide +kernel
theorem d_M_readFunction_154 : decode b_M_readFunction 154 = .ok (.aload_n 0, 1) := by decide +kernel
theorem d_M_readFunction_155 : decode b_M_readFunction 155 = .ok (.aload_n 0, 1) := by decide +kernel
theorem d_M_readFunction_156 : decode b_M_readFunction 156 = .ok (.bipush 41, 2) := by decide +kernel
theorem d_M_readFunction_158 : decode b_M_readFunction 158 = .ok (.invokevirtual 140, 3) := by decide +kernel
theorem d_M_readFunction_161 : decode b_M_readFunction 161 = .ok (.invokevirtual 122, 3) := by decide +kernel
theorem d_M_readFunction_164 : decode b_M_readFunction 164 = .ok (.aload_n 0, 1) := by decide +kernel
theorem d_M_readFunction_165 : decode b_M_readFunction 165 = .ok (.getfield 40, 3) := by decide +kernel
theorem d_M_readFunction_168 : decode b_M_readFunction 168 = .ok (.bipush 8, 2) := by decide +kernel
theorem d_M_readFunction_170 : decode b_M_readFunction 170 = .ok (.aload_n 0, 1) := by decide +kernel
theorem d_M_readFunction_171 : decode b_M_readFunction 171 = .ok (.bipush 48, 2) := by decide +kernel
theorem d_M_readFunction_173 : decode b_M_readFunction 173 = .ok (.bipush 50, 2) := by decide +kernel
theorem d_M_readFunction_175 : decode b_M_readFunction 175 = .ok (.invokevirtual 132, 3) := by decide +kernel
theorem d_M_readFunction_178 : decode b_M_readFunction 178 = .ok (.iastore, 1) := by decide +kernel
theorem d_M_readFunction_179 : decode b_M_readFunction 179 = .ok (.aload_n 0, 1) := by decide +kernel
theorem d_M_readFunction_180 : decode b_M_readFunction 180 = .ok (.aload_n 0, 1) := by decide +kernel
theorem d_M_readFunction_181 : decode b_M_readFunction 181 = .ok (.bipush 61, 2) := by decide +kernel
theorem d_M_readFunction_183 : decode b_M_readFunction 183 = .ok (.invokevirtual 140, 3) := by decide +kernel
theorem d_M_readFunction_186 : decode b_M_readFunction 186 = .ok (.invokevirtual 122, 3) := by decide +kernel
theorem d_M_readFunction_189 : decode b_M_readFunction 189 = .ok (.aload_n 0, 1) := by decide +kernel
theorem d_M_readFunction_190 : decode b_M_readFunction 190 = .ok (.getfield 104, 3) := by decide +kernel
theorem d_M_readFunction_193 : decode b_M_readFunction 193 = .ok (.ifCond .ne 7, 3) := by decide +kernel
theorem d_M_readFunction_196 : decode b_M_readFunction 196 = .ok (.aload_n 0, 1) := by decide +kernel
theorem d_M_readFunction_197 : decode b_M_readFunction 197 = .ok (.invokevirtual 159, 3) := by decide +kernel
theorem d_M_readFunction_200 : decode b_M_readFunction 200 = .ok (.aload_n 0, 1) := by decide +kernel
theorem d_M_readFunction_201 : decode b_M_readFunction 201 = .ok (.aload_n 0, 1) := by decide +kernel
theorem d_M_readFunction_202 : decode b_M_readFunction 202 = .ok (.getfield 108, 3) := by decide +kernel
theorem d_M_readFunction_205 : decode b_M_readFunction 205 = .ok (.aload_n 0, 1) := by decide +kernel
theorem d_M_readFunction_206 : decode b_M_readFunction 206 = .ok (.getfield 111, 3) := by decide +kernel
theorem d_M_readFunction_209 : decode b_M_readFunction 209 = .ok (.if_icmp .ne 7, 3) := by decide +kernel
theorem d_M_readFunction_212 : decode b_M_readFunction 212 = .ok (.iconst 1, 1) := by decide +kernel
theorem d_M_readFunction_213 : decode b_M_readFunction 213 = .ok (.goto 4, 3) := by decide +kernel
theorem d_M_readFunction_216 : decode b_M_readFunction 216 = .ok (.iconst 0, 1) := by decide +kernel
theorem d_M_readFunction_217 : decode b_M_readFunction 217 = .ok (.invokevirtual 122, 3) := by decide +kernel
theorem d_M_readFunction_220 : decode b_M_readFunction 220 = .ok (.iload_n 1, 1) := by decide +kernel
theorem d_M_readFunction_221 : decode b_M_readFunction 221 = .ok (.ireturn, 1) := by decide +kernel
theorem d_M_define_0 : decode b_M_define 0 = .ok (.aload_n 0, 1) := by decide +kernel
theorem d_M_define_1 : decode b_M_define 1 = .ok (.iconst 0, 1) := by decide +kernel
theorem d_M_define_2 : decode b_M_define 2 = .ok (.putfield 108, 3) := by decide +kernel
theorem d_M_define_5 : decode b_M_define 5 = .ok (.aload_n 0, 1) := by decide +kernel
theorem d_M_define_6 : decode b_M_define 6 = .ok (.iconst 0, 1) := by decide +kernel
theorem d_M_define_7 : decode b_M_define 7 = .ok (.putfield 104, 3) := by decide +kernel
theorem d_M_define_10 : decode b_M_define 10 = .ok (.aload_n 0, 1) := by decide +kernel
theorem d_M_define_11 : decode b_M_define 11 = .ok (.invokevirtual 210, 3) := by decide +kernel
theorem d_M_define_14 : decode b_M_define 14 = .ok (.istore_n 1, 1) := by decide +kernel
theorem d_M_define_15 : decode b_M_define 15 = .ok (.aload_n 0, 1) := by decide +kernel
theorem d_M_define_16 : decode b_M_define 16 = .ok (.aload_n 0, 1) := by decide +kernel
theorem d_M_define_17 : decode b_M_define 17 = .ok (.getfield 104, 3) := by decide +kernel
theorem d_M_define_20 : decode b_M_define 20 = .ok (.ifCond .eq 10, 3) := by decide +kernel
theorem d_M_define_23 : decode b_M_define 23 = .ok (.aload_n 0, 1) := by decide +kernel
theorem d_M_define_24 : decode b_M_define 24 = .ok (.getfield 108, 3) := by decide +kernel
theorem d_M_define_27 : decode b_M_define 27 = .ok (.goto 4, 3) := by decide +kernel
theorem d_M_define_30 : decode b_M_define 30 = .ok (.iconst (-1), 1) := by decide +kernel
theorem d_M_define_31 : decode b_M_define 31 = .ok (.putfield 13, 3) := by decide +kernel
theorem d_M_define_34 : decode b_M_define 34 = .ok (.aload_n 0, 1) := by decide +kernel
theorem d_M_define_35 : decode b_M_define 35 = .ok (.iconst 0, 1) := by decide +kernel
theorem d_M_define_36 : decode b_M_define 36 = .ok (.putfield 111, 3) := by decide +kernel
theorem d_M_define_39 : decode b_M_define 39 = .ok (.aload_n 0, 1) := by decide +kernel
theorem d_M_define_40 : decode b_M_define 40 = .ok (.iconst 0, 1) := by decide +kernel
theorem d_M_define_41 : decode b_M_define 41 = .ok (.putfield 207, 3) := by decide +kernel
theorem d_M_define_44 : decode b_M_define 44 = .ok (.aload_n 0, 1) := by decide +kernel
theorem d_M_define_45 : decode b_M_define 45 = .ok (.aload_n 0, 1) := by decide +kernel
theorem d_M_define_46 : decode b_M_define 46 = .ok (.getfield 104, 3) := by decide +kernel
theorem d_M_define_49 : decode b_M_define 49 = .ok (.ifCond .eq 7, 3) := by decide +kernel
theorem d_M_define_52 : decode b_M_define 52 = .ok (.iconst 1, 1) := by decide +kernel
theorem d_M_define_53 : decode b_M_define 53 = .ok (.goto 4, 3) := by decide +kernel
theorem d_M_define_56 : decode b_M_define 56 = .ok (.iconst 0, 1) := by decide +kernel
theorem d_M_define_57 : decode b_M_define 57 = .ok (.putfield 101, 3) := by decide +kernel
theorem d_M_define_60 : decode b_M_define 60 = .ok (.aload_n 0, 1) := by decide +kernel
theorem d_M_define_61 : decode b_M_define 61 = .ok (.getfield 104, 3) := by decide +kernel
theorem d_M_define_64 : decode b_M_define 64 = .ok (.ifCond .eq 5, 3) := by decide +kernel
theorem d_M_define_67 : decode b_M_define 67 = .ok (.iconst 0, 1) := by decide +kernel
theorem d_M_define_68 : decode b_M_define 68 = .ok (.ireturn, 1) := by decide +kernel
theorem d_M_define_69 : decode b_M_define 69 = .ok (.aload_n 0, 1) := by decide +kernel
theorem d_M_define_70 : decode b_M_define 70 = .ok (.iload_n 1, 1) := by decide +kernel
theorem d_M_define_71 : decode b_M_define 71 = .ok (.invokevirtual 213, 3) := by decide +kernel
theorem d_M_define_74 : decode b_M_define 74 = .ok (.aload_n 0, 1) := by decide +kernel
theorem d_M_define_75 : decode b_M_define 75 = .ok (.aload_n 0, 1) := by decide +kernel
theorem d_M_define_76 : decode b_M_define 76 = .ok (.getfield 162, 3) := by decide +kernel
theorem d_M_define_79 : decode b_M_define 79 = .ok (.putfield 13, 3) := by decide +kernel
theorem d_M_define_82 : decode b_M_define 82 = .ok (.aload_n 0, 1) := by decide +kernel
theorem d_M_define_83 : decode b_M_define 83 = .ok (.aload_n 0, 1) := by decide +kernel
theorem d_M_define_84 : decode b_M_define 84 = .ok (.getfield 162, 3) := by decide +kernel
theorem d_M_define_87 : decode b_M_define 87 = .ok (.ifCond .lt 7, 3) := by decide +kernel
theorem d_M_define_90 : decode b_M_define 90 = .ok (.iconst 2, 1) := by decide +kernel
theorem d_M_define_91 : decode b_M_define 91 = .ok (.goto 4, 3) := by decide +kernel
theorem d_M_define_94 : decode b_M_define 94 = .ok (.iconst 0, 1) := by decide +kernel
theorem d_M_define_95 : decode b_M_define 95 = .ok (.putfield 101, 3) := by decide +kernel
theorem d_M_define_98 : decode b_M_define 98 = .ok (.aload_n 0, 1) := by decide +kernel
theorem d_M_define_99 : decode b_M_define 99 = .ok (.getfield 162, 3) := by decide +kernel
theorem d_M_define_102 : decode b_M_define 102 = .ok (.ifCond .lt 5, 3) := by decide +kernel
theorem d_M_define_105 : decode b_M_define 105 = .ok (.iconst 0, 1) := by decide +kernel
theorem d_M_define_106 : decode b_M_define 106 = .ok (.ireturn, 1) := by decide +kernel
theorem d_M_define_107 : decode b_M_define 107 = .ok (.aload_n 0, 1) := by decide +kernel
theorem d_M_define_108 : decode b_M_define 108 = .ok (.getfield 33, 3) := by decide +kernel
theorem d_M_define_111 : decode b_M_define 111 = .ok (.iload_n 1, 1) := by decide +kernel
theorem d_M_define_112 : decode b_M_define 112 = .ok (.iconst 1, 1) := by decide +kernel
theorem d_M_define_113 : decode b_M_define 113 = .ok (.bastore, 1) := by decide +kernel
theorem d_M_define_114 : decode b_M_define 114 = .ok (.aload_n 0, 1) := by decide +kernel
theorem d_M_define_115 : decode b_M_define 115 = .ok (.getfield 37, 3) := by decide +kernel
theorem d_M_define_118 : decode b_M_define 118 = .ok (.iload_n 1, 1) := by decide +kernel
theorem d_M_define_119 : decode b_M_define 119 = .ok (.aload_n 0, 1) := by decide +kernel
theorem d_M_define_120 : decode b_M_define 120 = .ok (.getfield 37, 3) := by decide +kernel
theorem d_M_define_123 : decode b_M_define 123 = .ok (.bipush 8, 2) := by decide +kernel
theorem d_M_define_125 : decode b_M_define 125 = .ok (.iaload, 1) := by decide +kernel
theorem d_M_define_126 : decode b_M_define 126 = .ok (.iastore, 1) := by decide +kernel
theorem d_M_define_127 : decode b_M_define 127 = .ok (.aload_n 0, 1) := by decide +kernel
theorem d_M_define_128 : decode b_M_define 128 = .ok (.getfield 40, 3) := by decide +kernel
theorem d_M_define_131 : decode b_M_define 131 = .ok (.iload_n 1, 1) := by decide +kernel
theorem d_M_define_132 : decode b_M_define 132 = .ok (.aload_n 0, 1) := by decide +kernel
theorem d_M_define_133 : decode b_M_define 133 = .ok (.getfield 40, 3) := by decide +kernel
theorem d_M_define_136 : decode b_M_define 136 = .ok (.bipush 8, 2) := by decide +kernel
theorem d_M_define_138 : decode b_M_define 138 = .ok (.iaload, 1) := by decide +kernel
theorem d_M_define_139 : decode b_M_define 139 = .ok (.iastore, 1) := by decide +kernel
theorem d_M_define_140 : decode b_M_define 140 = .ok (.iconst 0, 1) := by decide +kernel
theorem d_M_define_141 : decode b_M_define 141 = .ok (.istore_n 2, 1) := by decide +kernel
theorem d_M_define_142 : decode b_M_define 142 = .ok (.iload_n 2, 1) := by decide +kernel
theorem d_M_define_143 : decode b_M_define 143 = .ok (.iconst 4, 1) := by decide +kernel
theorem d_M_define_144 : decode b_M_define 144 = .ok (.if_icmp .ge 47, 3) := by decide +kernel
theorem d_M_define_147 : decode b_M_define 147 = .ok (.aload_n 0, 1) := by decide +kernel
theorem d_M_define_148 : decode b_M_define 148 = .ok (.getfield 43, 3) := by decide +kernel
theorem d_M_define_151 : decode b_M_define 151 = .ok (.iconst 4, 1) := by decide +kernel
theorem d_M_define_152 : decode b_M_define 152 = .ok (.iload_n 1, 1) := by decide +kernel
theorem d_M_define_153 : decode b_M_define 153 = .ok (.imul, 1) := by decide +kernel
theorem d_M_define_154 : decode b_M_define 154 = .ok (.iload_n 2, 1) := by decide +kernel
theorem d_M_define_155 : decode b_M_define 155 = .ok (.iadd, 1) := by decide +kernel
theorem d_M_define_156 : decode b_M_define 156 = .ok (.aload_n 0, 1) := by decide +kernel
theorem d_M_define_157 : decode b_M_define 157 = .ok (.getfield 43, 3) := by decide +kernel
theorem d_M_define_160 : decode b_M_define 160 = .ok (.bipush 32, 2) := by decide +kernel
theorem d_M_define_162 : decode b_M_define 162 = .ok (.iload_n 2, 1) := by decide +kernel
theorem d_M_define_163 : decode b_M_define 163 = .ok (.iadd, 1) := by decide +kernel
theorem d_M_define_164 : decode b_M_define 164 = .ok (.iaload, 1) := by decide +kernel
theorem d_M_define_165 : decode b_M_define 165 = .ok (.iastore, 1) := by decide +kernel
theorem d_M_define_166 : decode b_M_define 166 = .ok (.aload_n 0, 1) := by decide +kernel
theorem d_M_define_167 : decode b_M_define 167 = .ok (.getfield 46, 3) := by decide +kernel
theorem d_M_define_170 : decode b_M_define 170 = .ok (.iconst 4, 1) := by decide +kernel
theorem d_M_define_171 : decode b_M_define 171 = .ok (.iload_n 1, 1) := by decide +kernel
theorem d_M_define_172 : decode b_M_define 172 = .ok (.imul, 1) := by decide +kernel
theorem d_M_define_173 : decode b_M_define 173 = .ok (.iload_n 2, 1) := by decide +kernel
theorem d_M_define_174 : decode b_M_define 174 = .ok (.iadd, 1) := by decide +kernel
theorem d_M_define_175 : decode b_M_define 175 = .ok (.aload_n 0, 1) := by decide +kernel
theorem d_M_define_176 : decode b_M_define 176 = .ok (.getfield 46, 3) := by decide +kernel
theorem d_M_define_179 : decode b_M_define 179 = .ok (.bipush 32, 2) := by decide +kernel
theorem d_M_define_181 : decode b_M_define 181 = .ok (.iload_n 2, 1) := by decide +kernel
theorem d_M_define_182 : decode b_M_define 182 = .ok (.iadd, 1) := by decide +kernel
theorem d_M_define_183 : decode b_M_define 183 = .ok (.iaload, 1) := by decide +kernel
theorem d_M_define_184 : decode b_M_define 184 = .ok (.iastore, 1) := by decide +kernel
theorem d_M_define_185 : decode b_M_define 185 = .ok (.iinc 2 1, 3) := by decide +kernel
theorem d_M_define_188 : decode b_M_define 188 = .ok (.goto (-46), 3) := by decide +kernel
theorem d_M_define_191 : decode b_M_define 191 = .ok (.iconst 0, 1) := by decide +kernel
theorem d_M_define_192 : decode b_M_define 192 = .ok (.istore_n 2, 1) := by decide +kernel
theorem d_M_define_193 : decode b_M_define 193 = .ok (.iload_n 2, 1) := by decide +kernel
theorem d_M_define_194 : decode b_M_define 194 = .ok (.aload_n 0, 1) := by decide +kernel
theorem d_M_define_195 : decode b_M_define 195 = .ok (.getfield 126, 3) := by decide +kernel
theorem d_M_define_198 : decode b_M_define 198 = .ok (.if_icmp .ge 91, 3) := by decide +kernel
theorem d_M_define_201 : decode b_M_define 201 = .ok (.sipush 150, 3) := by decide +kernel
theorem d_M_define_204 : decode b_M_define 204 = .ok (.iload_n 1, 1) := by decide +kernel
theorem d_M_define_205 : decode b_M_define 205 = .ok (.imul, 1) := by decide +kernel
theorem d_M_define_206 : decode b_M_define 206 = .ok (.iload_n 2, 1) := by decide +kernel
theorem d_M_define_207 : decode b_M_define 207 = .ok (.iadd, 1) := by decide +kernel
theorem d_M_define_208 : decode b_M_define 208 = .ok (.istore_n 3, 1) := by decide +kernel
theorem d_M_define_209 : decode b_M_define 209 = .ok (.aload_n 0, 1) := by decide +kernel
theorem d_M_define_210 : decode b_M_define 210 = .ok (.getfield 17, 3) := by decide +kernel
theorem d_M_define_213 : decode b_M_define 213 = .ok (.iload_n 3, 1) := by decide +kernel
theorem d_M_define_214 : decode b_M_define 214 = .ok (.aload_n 0, 1) := by decide +kernel
theorem d_M_define_215 : decode b_M_define 215 = .ok (.getfield 17, 3) := by decide +kernel
theorem d_M_define_218 : decode b_M_define 218 = .ok (.sipush 1200, 3) := by decide +kernel
theorem d_M_define_221 : decode b_M_define 221 = .ok (.iload_n 2, 1) := by decide +kernel
theorem d_M_define_222 : decode b_M_define 222 = .ok (.iadd, 1) := by decide +kernel
theorem d_M_define_223 : decode b_M_define 223 = .ok (.iaload, 1) := by decide +kernel
theorem d_M_define_224 : decode b_M_define 224 = .ok (.iastore, 1) := by decide +kernel
theorem d_M_define_225 : decode b_M_define 225 = .ok (.aload_n 0, 1) := by decide +kernel
theorem d_M_define_226 : decode b_M_define 226 = .ok (.getfield 21, 3) := by decide +kernel
theorem d_M_define_229 : decode b_M_define 229 = .ok (.iload_n 3, 1) := by decide +kernel
theorem d_M_define_230 : decode b_M_define 230 = .ok (.aload_n 0, 1) := by decide +kernel
theorem d_M_define_231 : decode b_M_define 231 = .ok (.getfield 21, 3) := by decide +kernel
theorem d_M_define_234 : decode b_M_define 234 = .ok (.sipush 1200, 3) := by decide +kernel
theorem d_M_define_237 : decode b_M_define 237 = .ok (.iload_n 2, 1) := by decide +kernel
theorem d_M_define_238 : decode b_M_define 238 = .ok (.iadd, 1) := by decide +kernel
theorem d_M_define_239 : decode b_M_define 239 = .ok (.iaload, 1) := by decide +kernel
theorem d_M_define_240 : decode b_M_define 240 = .ok (.iastore, 1) := by decide +kernel
theorem d_M_define_241 : decode b_M_define 241 = .ok (.aload_n 0, 1) := by decide +kernel
theorem d_M_define_242 : decode b_M_define 242 = .ok (.getfield 27, 3) := by decide +kernel
theorem d_M_define_245 : decode b_M_define 245 = .ok (.iload_n 3, 1) := by decide +kernel
theorem d_M_define_246 : decode b_M_define 246 = .ok (.aload_n 0, 1) := by decide +kernel
theorem d_M_define_247 : decode b_M_define 247 = .ok (.getfield 27, 3) := by decide +kernel
theorem d_M_define_250 : decode b_M_define 250 = .ok (.sipush 1200, 3) := by decide +kernel
theorem d_M_define_253 : decode b_M_define 253 = .ok (.iload_n 2, 1) := by decide +kernel
theorem d_M_define_254 : decode b_M_define 254 = .ok (.iadd, 1) := by decide +kernel
theorem d_M_define_255 : decode b_M_define 255 = .ok (.iaload, 1) := by decide +kernel
theorem d_M_define_256 : decode b_M_define 256 = .ok (.iastore, 1) := by decide +kernel
theorem d_M_define_257 : decode b_M_define 257 = .ok (.aload_n 0, 1) := by decide +kernel
theorem d_M_define_258 : decode b_M_define 258 = .ok (.getfield 30, 3) := by decide +kernel
theorem d_M_define_261 : decode b_M_define 261 = .ok (.iload_n 3, 1) := by decide +kernel
theorem d_M_define_262 : decode b_M_define 262 = .ok (.aload_n 0, 1) := by decide +kernel
theorem d_M_define_263 : decode b_M_define 263 = .ok (.getfield 30, 3) := by decide +kernel
theorem d_M_define_266 : decode b_M_define 266 = .ok (.sipush 1200, 3) := by decide +kernel
theorem d_M_define_269 : decode b_M_define 269 = .ok (.iload_n 2, 1) := by decide +kernel
theorem d_M_define_270 : decode b_M_define 270 = .ok (.iadd, 1) := by decide +kernel
theorem d_M_define_271 : decode b_M_define 271 = .ok (.iaload, 1) := by decide +kernel
theorem d_M_define_272 : decode b_M_define 272 = .ok (.sipush 1200, 3) := by decide +kernel
theorem d_M_define_275 : decode b_M_define 275 = .ok (.isub, 1) := by decide +kernel
theorem d_M_define_276 : decode b_M_define 276 = .ok (.sipush 150, 3) := by decide +kernel
theorem d_M_define_279 : decode b_M_define 279 = .ok (.iload_n 1, 1) := by decide +kernel
theorem d_M_define_280 : decode b_M_define 280 = .ok (.imul, 1) := by decide +kernel
theorem d_M_define_281 : decode b_M_define 281 = .ok (.iadd, 1) := by decide +kernel
theorem d_M_define_282 : decode b_M_define 282 = .ok (.iastore, 1) := by decide +kernel
theorem d_M_define_283 : decode b_M_define 283 = .ok (.iinc 2 1, 3) := by decide +kernel
theorem d_M_define_286 : decode b_M_define 286 = .ok (.goto (-93), 3) := by decide +kernel
theorem d_M_define_289 : decode b_M_define 289 = .ok (.aload_n 0, 1) := by decide +kernel
theorem d_M_define_290 : decode b_M_define 290 = .ok (.invokevirtual 216, 3) := by decide +kernel
theorem d_M_define_293 : decode b_M_define 293 = .ok (.ireturn, 1) := by decide +kernel
theorem d_M_isRun_0 : decode b_M_isRun 0 = .ok (.iload_n 1, 1) := by decide +kernel
theorem d_M_isRun_1 : decode b_M_isRun 1 = .ok (.ifCond .lt 18, 3) := by decide +kernel
theorem d_M_isRun_4 : decode b_M_isRun 4 = .ok (.iload_n 1, 1) := by decide +kernel
theorem d_M_isRun_5 : decode b_M_isRun 5 = .ok (.bipush 7, 2) := by decide +kernel
theorem d_M_isRun_7 : decode b_M_isRun 7 = .ok (.if_icmp .gt 12, 3) := by decide +kernel
theorem d_M_isRun_10 : decode b_M_isRun 10 = .ok (.aload_n 0, 1) := by decide +kernel
theorem d_M_isRun_11 : decode b_M_isRun 11 = .ok (.getfield 33, 3) := by decide +kernel
theorem d_M_isRun_14 : decode b_M_isRun 14 = .ok (.iload_n 1, 1) := by decide +kernel
theorem d_M_isRun_15 : decode b_M_isRun 15 = .ok (.baload, 1) := by decide +kernel
theorem d_M_isRun_16 : decode b_M_isRun 16 = .ok (.ifCond .ne 5, 3) := by decide +kernel
theorem d_M_isRun_19 : decode b_M_isRun 19 = .ok (.iconst 0, 1) := by decide +kernel
theorem d_M_isRun_20 : decode b_M_isRun 20 = .ok (.ireturn, 1) := by decide +kernel
theorem d_M_isRun_21 : decode b_M_isRun 21 = .ok (.iconst 1, 1) := by decide +kernel
theorem d_M_isRun_22 : decode b_M_isRun 22 = .ok (.istore_n 2, 1) := by decide +kernel
theorem d_M_isRun_23 : decode b_M_isRun 23 = .ok (.iconst 0, 1) := by decide +kernel
theorem d_M_isRun_24 : decode b_M_isRun 24 = .ok (.istore_n 3, 1) := by decide +kernel
theorem d_M_isRun_25 : decode b_M_isRun 25 = .ok (.iload_n 3, 1) := by decide +kernel
theorem d_M_isRun_26 : decode b_M_isRun 26 = .ok (.aload_n 0, 1) := by decide +kernel
theorem d_M_isRun_27 : decode b_M_isRun 27 = .ok (.getfield 37, 3) := by decide +kernel
theorem d_M_isRun_30 : decode b_M_isRun 30 = .ok (.iload_n 1, 1) := by decide +kernel
theorem d_M_isRun_31 : decode b_M_isRun 31 = .ok (.iaload, 1) := by decide +kernel
theorem d_M_isRun_32 : decode b_M_isRun 32 = .ok (.if_icmp .ge 32, 3) := by decide +kernel
theorem d_M_isRun_35 : decode b_M_isRun 35 = .ok (.iload_n 2, 1) := by decide +kernel
theorem d_M_isRun_36 : decode b_M_isRun 36 = .ok (.ifCond .eq 20, 3) := by decide +kernel
theorem d_M_isRun_39 : decode b_M_isRun 39 = .ok (.aload_n 0, 1) := by decide +kernel
theorem d_M_isRun_40 : decode b_M_isRun 40 = .ok (.getfield 46, 3) := by decide +kernel
theorem d_M_isRun_43 : decode b_M_isRun 43 = .ok (.iconst 4, 1) := by decide +kernel
theorem d_M_isRun_44 : decode b_M_isRun 44 = .ok (.iload_n 1, 1) := by decide +kernel
theorem d_M_isRun_45 : decode b_M_isRun 45 = .ok (.imul, 1) := by decide +kernel
theorem d_M_isRun_46 : decode b_M_isRun 46 = .ok (.iload_n 3, 1) := by decide +kernel
theorem d_M_isRun_47 : decode b_M_isRun 47 = .ok (.iadd, 1) := by decide +kernel
theorem d_M_isRun_48 : decode b_M_isRun 48 = .ok (.iaload, 1) := by decide +kernel
theorem d_M_isRun_49 : decode b_M_isRun 49 = .ok (.ifCond .ne 7, 3) := by decide +kernel
theorem d_M_isRun_52 : decode b_M_isRun 52 = .ok (.iconst 1, 1) := by decide +kernel
theorem d_M_isRun_53 : decode b_M_isRun 53 = .ok (.goto 4, 3) := by decide +kernel
theorem d_M_isRun_56 : decode b_M_isRun 56 = .ok (.iconst 0, 1) := by decide +kernel
theorem d_M_isRun_57 : decode b_M_isRun 57 = .ok (.istore_n 2, 1) := by decide +kernel
theorem d_M_isRun_58 : decode b_M_isRun 58 = .ok (.iinc 3 1, 3) := by decide +kernel
theorem d_M_isRun_61 : decode b_M_isRun 61 = .ok (.goto (-36), 3) := by decide +kernel
theorem d_M_isRun_64 : decode b_M_isRun 64 = .ok (.iload_n 2, 1) := by decide +kernel
theorem d_M_isRun_65 : decode b_M_isRun 65 = .ok (.ireturn, 1) := by decide +kernel
theorem d_M_run_0 : decode b_M_run 0 = .ok (.iload_n 1, 1) := by decide +kernel
theorem d_M_run_1 : decode b_M_run 1 = .ok (.bipush 65, 2) := by decide +kernel
theorem d_M_run_3 : decode b_M_run 3 = .ok (.isub, 1) := by decide +kernel
theorem d_M_run_4 : decode b_M_run 4 = .ok (.istore_n 2, 1) := by decide +kernel
theorem d_M_run_5 : decode b_M_run 5 = .ok (.aload_n 0, 1) := by decide +kernel
theorem d_M_run_6 : decode b_M_run 6 = .ok (.aload_n 0, 1) := by decide +kernel
theorem d_M_run_7 : decode b_M_run 7 = .ok (.iload_n 2, 1) := by decide +kernel
theorem d_M_run_8 : decode b_M_run 8 = .ok (.invokevirtual 281, 3) := by decide +kernel
theorem d_M_run_11 : decode b_M_run 11 = .ok (.ifCond .eq 7, 3) := by decide +kernel
theorem d_M_run_14 : decode b_M_run 14 = .ok (.iconst 0, 1) := by decide +kernel
theorem d_M_run_15 : decode b_M_run 15 = .ok (.goto 4, 3) := by decide +kernel
theorem d_M_run_18 : decode b_M_run 18 = .ok (.iconst 1, 1) := by decide +kernel
theorem d_M_run_19 : decode b_M_run 19 = .ok (.putfield 101, 3) := by decide +kernel
theorem d_M_run_22 : decode b_M_run 22 = .ok (.aload_n 0, 1) := by decide +kernel
theorem d_M_run_23 : decode b_M_run 23 = .ok (.getfield 101, 3) := by decide +kernel
theorem d_M_run_26 : decode b_M_run 26 = .ok (.ifCond .eq 5, 3) := by decide +kernel
theorem d_M_run_29 : decode b_M_run 29 = .ok (.iconst 0, 1) := by decide +kernel
theorem d_M_run_30 : decode b_M_run 30 = .ok (.ireturn, 1) := by decide +kernel
theorem d_M_run_31 : decode b_M_run 31 = .ok (.aload_n 0, 1) := by decide +kernel
theorem d_M_run_32 : decode b_M_run 32 = .ok (.iconst (-1), 1) := by decide +kernel
theorem d_M_run_33 : decode b_M_run 33 = .ok (.putfield 95, 3) := by decide +kernel
theorem d_M_run_36 : decode b_M_run 36 = .ok (.aload_n 0, 1) := by decide +kernel
theorem d_M_run_37 : decode b_M_run 37 = .ok (.iconst 0, 1) := by decide +kernel
theorem d_M_run_38 : decode b_M_run 38 = .ok (.putfield 228, 3) := by decide +kernel
theorem d_M_run_41 : decode b_M_run 41 = .ok (.aload_n 0, 1) := by decide +kernel
theorem d_M_run_42 : decode b_M_run 42 = .ok (.iconst 0, 1) := by decide +kernel
theorem d_M_run_43 : decode b_M_run 43 = .ok (.putfield 250, 3) := by decide +kernel
theorem d_M_run_46 : decode b_M_run 46 = .ok (.aload_n 0, 1) := by decide +kernel
theorem d_M_run_47 : decode b_M_run 47 = .ok (.iconst 0, 1) := by decide +kernel
theorem d_M_run_48 : decode b_M_run 48 = .ok (.putfield 225, 3) := by decide +kernel
theorem d_M_run_51 : decode b_M_run 51 = .ok (.aload_n 0, 1) := by decide +kernel
theorem d_M_run_52 : decode b_M_run 52 = .ok (.iconst 0, 1) := by decide +kernel
theorem d_M_run_53 : decode b_M_run 53 = .ok (.putfield 129, 3) := by decide +kernel
theorem d_M_run_56 : decode b_M_run 56 = .ok (.aload_n 0, 1) := by decide +kernel
theorem d_M_run_57 : decode b_M_run 57 = .ok (.iconst 0, 1) := by decide +kernel
theorem d_M_run_58 : decode b_M_run 58 = .ok (.putfield 219, 3) := by decide +kernel
theorem d_M_run_61 : decode b_M_run 61 = .ok (.aload_n 0, 1) := by decide +kernel
theorem d_M_run_62 : decode b_M_run 62 = .ok (.iconst 0, 1) := by decide +kernel
theorem d_M_run_63 : decode b_M_run 63 = .ok (.putfield 236, 3) := by decide +kernel
theorem d_M_run_66 : decode b_M_run 66 = .ok (.aload_n 0, 1) := by decide +kernel
theorem d_M_run_67 : decode b_M_run 67 = .ok (.iconst 0, 1) := by decide +kernel
theorem d_M_run_68 : decode b_M_run 68 = .ok (.putfield 233, 3) := by decide +kernel
theorem d_M_run_71 : decode b_M_run 71 = .ok (.aload_n 0, 1) := by decide +kernel
theorem d_M_run_72 : decode b_M_run 72 = .ok (.iconst 0, 1) := by decide +kernel
theorem d_M_run_73 : decode b_M_run 73 = .ok (.putfield 239, 3) := by decide +kernel
theorem d_M_run_76 : decode b_M_run 76 = .ok (.aload_n 0, 1) := by decide +kernel
theorem d_M_run_77 : decode b_M_run 77 = .ok (.iconst 0, 1) := by decide +kernel
theorem d_M_run_78 : decode b_M_run 78 = .ok (.putfield 253, 3) := by decide +kernel
theorem d_M_run_81 : decode b_M_run 81 = .ok (.aload_n 0, 1) := by decide +kernel
theorem d_M_run_82 : decode b_M_run 82 = .ok (.iconst 0, 1) := by decide +kernel
theorem d_M_run_83 : decode b_M_run 83 = .ok (.putfield 222, 3) := by decide +kernel
theorem d_M_run_86 : decode b_M_run 86 = .ok (.iconst 0, 1) := by decide +kernel
theorem d_M_run_87 : decode b_M_run 87 = .ok (.istore_n 3, 1) := by decide +kernel
theorem d_M_run_88 : decode b_M_run 88 = .ok (.iload_n 3, 1) := by decide +kernel
theorem d_M_run_89 : decode b_M_run 89 = .ok (.aload_n 0, 1) := by decide +kernel
theorem d_M_run_90 : decode b_M_run 90 = .ok (.getfield 37, 3) := by decide +kernel
theorem d_M_run_93 : decode b_M_run 93 = .ok (.iload_n 2, 1) := by decide +kernel
theorem d_M_run_94 : decode b_M_run 94 = .ok (.iaload, 1) := by decide +kernel
theorem d_M_run_95 : decode b_M_run 95 = .ok (.if_icmp .ge 30, 3) := by decide +kernel
theorem d_M_run_98 : decode b_M_run 98 = .ok (.aload_n 0, 1) := by decide +kernel
theorem d_M_run_99 : decode b_M_run 99 = .ok (.getfield 80, 3) := by decide +kernel
theorem d_M_run_102 : decode b_M_run 102 = .ok (.aload_n 0, 1) := by decide +kernel
theorem d_M_run_103 : decode b_M_run 103 = .ok (.getfield 43, 3) := by decide +kernel
theorem d_M_run_106 : decode b_M_run 106 = .ok (.iconst 4, 1) := by decide +kernel
theorem d_M_run_107 : decode b_M_run 107 = .ok (.iload_n 2, 1) := by decide +kernel
theorem d_M_run_108 : decode b_M_run 108 = .ok (.imul, 1) := by decide +kernel
theorem d_M_run_109 : decode b_M_run 109 = .ok (.iload_n 3, 1) := by decide +kernel
theorem d_M_run_110 : decode b_M_run 110 = .ok (.iadd, 1) := by decide +kernel
theorem d_M_run_111 : decode b_M_run 111 = .ok (.iaload, 1) := by decide +kernel
theorem d_M_run_112 : decode b_M_run 112 = .ok (.aload_n 0, 1) := by decide +kernel
theorem d_M_run_113 : decode b_M_run 113 = .ok (.getfield 92, 3) := by decide +kernel
theorem d_M_run_116 : decode b_M_run 116 = .ok (.iload_n 3, 1) := by decide +kernel
theorem d_M_run_117 : decode b_M_run 117 = .ok (.laload, 1) := by decide +kernel
theorem d_M_run_118 : decode b_M_run 118 = .ok (.lastore, 1) := by decide +kernel
theorem d_M_run_119 : decode b_M_run 119 = .ok (.iinc 3 1, 3) := by decide +kernel
theorem d_M_run_122 : decode b_M_run 122 = .ok (.goto (-34), 3) := by decide +kernel
theorem d_M_run_125 : decode b_M_run 125 = .ok (.aload_n 0, 1) := by decide +kernel
theorem d_M_run_126 : decode b_M_run 126 = .ok (.sipush 150, 3) := by decide +kernel
theorem d_M_run_129 : decode b_M_run 129 = .ok (.iload_n 2, 1) := by decide +kernel
theorem d_M_run_130 : decode b_M_run 130 = .ok (.imul, 1) := by decide +kernel
theorem d_M_run_131 : decode b_M_run 131 = .ok (.invokevirtual 259, 3) := by decide +kernel
theorem d_M_run_134 : decode b_M_run 134 = .ok (.aload_n 0, 1) := by decide +kernel
theorem d_M_run_135 : decode b_M_run 135 = .ok (.getfield 129, 3) := by decide +kernel
theorem d_M_run_138 : decode b_M_run 138 = .ok (.ifCond .le 17, 3) := by decide +kernel
theorem d_M_run_141 : decode b_M_run 141 = .ok (.aload_n 0, 1) := by decide +kernel
theorem d_M_run_142 : decode b_M_run 142 = .ok (.getfield 222, 3) := by decide +kernel
theorem d_M_run_145 : decode b_M_run 145 = .ok (.ifCond .ne 10, 3) := by decide +kernel
theorem d_M_run_148 : decode b_M_run 148 = .ok (.aload_n 0, 1) := by decide +kernel
theorem d_M_run_149 : decode b_M_run 149 = .ok (.invokevirtual 284, 3) := by decide +kernel
theorem d_M_run_152 : decode b_M_run 152 = .ok (.goto (-18), 3) := by decide +kernel
theorem d_M_run_155 : decode b_M_run 155 = .ok (.aload_n 0, 1) := by decide +kernel
theorem d_M_run_156 : decode b_M_run 156 = .ok (.aload_n 0, 1) := by decide +kernel
theorem d_M_run_157 : decode b_M_run 157 = .ok (.getfield 222, 3) := by decide +kernel
theorem d_M_run_160 : decode b_M_run 160 = .ok (.putfield 101, 3) := by decide +kernel
theorem d_M_run_163 : decode b_M_run 163 = .ok (.aload_n 0, 1) := by decide +kernel
theorem d_M_run_164 : decode b_M_run 164 = .ok (.getfield 222, 3) := by decide +kernel
theorem d_M_run_167 : decode b_M_run 167 = .ok (.ifCond .eq 5, 3) := by decide +kernel
theorem d_M_run_170 : decode b_M_run 170 = .ok (.iconst 0, 1) := by decide +kernel
theorem d_M_run_171 : decode b_M_run 171 = .ok (.ireturn, 1) := by decide +kernel
theorem d_M_run_172 : decode b_M_run 172 = .ok (.aload_n 0, 1) := by decide +kernel
theorem d_M_run_173 : decode b_M_run 173 = .ok (.aload_n 0, 1) := by decide +kernel
theorem d_M_run_174 : decode b_M_run 174 = .ok (.getfield 40, 3) := by decide +kernel
theorem d_M_run_177 : decode b_M_run 177 = .ok (.iload_n 2, 1) := by decide +kernel
theorem d_M_run_178 : decode b_M_run 178 = .ok (.iaload, 1) := by decide +kernel
theorem d_M_run_179 : decode b_M_run 179 = .ok (.putfield 95, 3) := by decide +kernel
theorem d_M_run_182 : decode b_M_run 182 = .ok (.aload_n 0, 1) := by decide +kernel
theorem d_M_run_183 : decode b_M_run 183 = .ok (.aload_n 0, 1) := by decide +kernel
theorem d_M_run_184 : decode b_M_run 184 = .ok (.getfield 86, 3) := by decide +kernel
theorem d_M_run_187 : decode b_M_run 187 = .ok (.iconst 0, 1) := by decide +kernel
theorem d_M_run_188 : decode b_M_run 188 = .ok (.laload, 1) := by decide +kernel
theorem d_M_run_189 : decode b_M_run 189 = .ok (.putfield 287, 3) := by decide +kernel
theorem d_M_run_192 : decode b_M_run 192 = .ok (.aload_n 0, 1) := by decide +kernel
theorem d_M_run_193 : decode b_M_run 193 = .ok (.getfield 95, 3) := by decide +kernel
theorem d_M_run_196 : decode b_M_run 196 = .ok (.ifCond .ne 5, 3) := by decide +kernel
theorem d_M_run_199 : decode b_M_run 199 = .ok (.iconst 0, 1) := by decide +kernel
theorem d_M_run_200 : decode b_M_run 200 = .ok (.ireturn, 1) := by decide +kernel
theorem d_M_run_201 : decode b_M_run 201 = .ok (.aload_n 0, 1) := by decide +kernel
theorem d_M_run_202 : decode b_M_run 202 = .ok (.getfield 89, 3) := by decide +kernel
theorem d_M_run_205 : decode b_M_run 205 = .ok (.iconst 0, 1) := by decide +kernel
theorem d_M_run_206 : decode b_M_run 206 = .ok (.iaload, 1) := by decide +kernel
theorem d_M_run_207 : decode b_M_run 207 = .ok (.istore_n 3, 1) := by decide +kernel
theorem d_M_run_208 : decode b_M_run 208 = .ok (.aload_n 0, 1) := by decide +kernel
theorem d_M_run_209 : decode b_M_run 209 = .ok (.aload_n 0, 1) := by decide +kernel
theorem d_M_run_210 : decode b_M_run 210 = .ok (.getfield 74, 3) := by decide +kernel
theorem d_M_run_213 : decode b_M_run 213 = .ok (.iload_n 3, 1) := by decide +kernel
theorem d_M_run_214 : decode b_M_run 214 = .ok (.iaload, 1) := by decide +kernel
theorem d_M_run_215 : decode b_M_run 215 = .ok (.putfield 291, 3) := by decide +kernel
theorem d_M_run_218 : decode b_M_run 218 = .ok (.aload_n 0, 1) := by decide +kernel
theorem d_M_run_219 : decode b_M_run 219 = .ok (.aload_n 0, 1) := by decide +kernel
theorem d_M_run_220 : decode b_M_run 220 = .ok (.getfield 77, 3) := by decide +kernel
theorem d_M_run_223 : decode b_M_run 223 = .ok (.iload_n 3, 1) := by decide +kernel
theorem d_M_run_224 : decode b_M_run 224 = .ok (.iaload, 1) := by decide +kernel
theorem d_M_run_225 : decode b_M_run 225 = .ok (.putfield 294, 3) := by decide +kernel
theorem d_M_run_228 : decode b_M_run 228 = .ok (.iconst 0, 1) := by decide +kernel
theorem d_M_run_229 : decode b_M_run 229 = .ok (.istore 4, 2) := by decide +kernel
theorem d_M_run_231 : decode b_M_run 231 = .ok (.iload 4, 2) := by decide +kernel
theorem d_M_run_233 : decode b_M_run 233 = .ok (.aload_n 0, 1) := by decide +kernel
theorem d_M_run_234 : decode b_M_run 234 = .ok (.getfield 74, 3) := by decide +kernel
theorem d_M_run_237 : decode b_M_run 237 = .ok (.iload_n 3, 1) := by decide +kernel
theorem d_M_run_238 : decode b_M_run 238 = .ok (.iaload, 1) := by decide +kernel
theorem d_M_run_239 : decode b_M_run 239 = .ok (.aload_n 0, 1) := by decide +kernel
theorem d_M_run_240 : decode b_M_run 240 = .ok (.getfield 77, 3) := by decide +kernel
theorem d_M_run_243 : decode b_M_run 243 = .ok (.iload_n 3, 1) := by decide +kernel
theorem d_M_run_244 : decode b_M_run 244 = .ok (.iaload, 1) := by decide +kernel
theorem d_M_run_245 : decode b_M_run 245 = .ok (.imul, 1) := by decide +kernel
theorem d_M_run_246 : decode b_M_run 246 = .ok (.if_icmp .ge 28, 3) := by decide +kernel
theorem d_M_run_249 : decode b_M_run 249 = .ok (.aload_n 0, 1) := by decide +kernel
theorem d_M_run_250 : decode b_M_run 250 = .ok (.getfield 98, 3) := by decide +kernel
theorem d_M_run_253 : decode b_M_run 253 = .ok (.iload 4, 2) := by decide +kernel
theorem d_M_run_255 : decode b_M_run 255 = .ok (.aload_n 0, 1) := by decide +kernel
theorem d_M_run_256 : decode b_M_run 256 = .ok (.getfield 70, 3) := by decide +kernel
theorem d_M_run_259 : decode b_M_run 259 = .ok (.bipush 40, 2) := by decide +kernel
theorem d_M_run_261 : decode b_M_run 261 = .ok (.iload_n 3, 1) := by decide +kernel
theorem d_M_run_262 : decode b_M_run 262 = .ok (.imul, 1) := by decide +kernel
theorem d_M_run_263 : decode b_M_run 263 = .ok (.iload 4, 2) := by decide +kernel
theorem d_M_run_265 : decode b_M_run 265 = .ok (.iadd, 1) := by decide +kernel
theorem d_M_run_266 : decode b_M_run 266 = .ok (.laload, 1) := by decide +kernel
theorem d_M_run_267 : decode b_M_run 267 = .ok (.lastore, 1) := by decide +kernel
theorem d_M_run_268 : decode b_M_run 268 = .ok (.iinc 4 1, 3) := by decide +kernel
theorem d_M_run_271 : decode b_M_run 271 = .ok (.goto (-40), 3) := by decide +kernel
theorem d_M_run_274 : decode b_M_run 274 = .ok (.aload_n 0, 1) := by decide +kernel
theorem d_M_run_275 : decode b_M_run 275 = .ok (.getfield 95, 3) := by decide +kernel
theorem d_M_run_278 : decode b_M_run 278 = .ok (.ireturn, 1) := by decide +kernel
section BM
variable {G : zG} {l : Launch} {n p z : Nat} {σ : zS} {S : mS} {A : mA} {L : mL} {rn : Int64}
theorem upd_same {f : mS} {k : Nat} {x : Int32} (h : f k = x) : upd f k x = f := by
  funext j
  unfold upd
  by_cases q : j = k
  · rw [if_pos q, q, h]
  · rw [if_neg q]
theorem mTx.pos {lo : Int32} (h0 : 0 < lo) (h : lo ≤ mlk S A p z) : S 5 = 0 ∧ p < z := by
  refine Decidable.byContradiction fun q => ?_
  rw [mlk, if_neg q] at h
  exact absurd h (Int32.not_le.mpr h0)
theorem c_M_letter (hn : 113 ≤ n) (hT : mTx S A p z) (lo hi : Int32) (h0 : 0 < lo) : MetZ G l y_M_letter b_M_letter 3 (some .int) [] 2 0 0 [.ref 85, .int lo, .int hi] n (mOv S A L rn σ) (fun o n' σ' => n' = n ∧
    (((lo ≤ mlk S A p z ∧ mlk S A p z ≤ hi) ∧ o = .returned (some (.int (mlk S A p z - lo))) ∧ σ' = mOv (upd S 4 (nI (p + 1))) A L rn σ) ∨ (¬ (lo ≤ mlk S A p z ∧ mlk S A p z ≤ hi) ∧ o = .returned (some (.int 0)) ∧ σ' = mOv (upd S 5 1) A L rn σ))) := by
  refine MetZ.of (by decide) (Nat.le_of_ble_eq_true rfl) (fun K hK hR hpo hmc hms C => ?_)
  refine z_aload_n C 1 d_M_letter_0 rfl rfl ?_
  refine z_aload_n C 2 d_M_letter_1 rfl rfl ?_
  refine z_iload_n C 3 d_M_letter_2 rfl rfl ?_
  refine z_iload_n C 4 d_M_letter_3 rfl rfl ?_
  refine z_call C 7 (c_M_among hn hT lo hi) w_M_among ini_M d_M_letter_4 rfl (z_goV (As := [.int lo, .int hi]) C l_M_118 w_M_among d_M_letter_4 (by omega) rfl rfl rfl) (Nat.le_of_ble_eq_true rfl) (by rw [hR]; simp only [zRm]; omega) (by rw [hR]; simp only [zRm]; omega) (by rw [hR]; simp only [zRm]; omega) (by rw [hR]; simp only [zRm]; omega) (fun v n' σ' hv => ?_) (fun x n' σ' hv => ?_)
  · obtain ⟨e0, e1, rfl⟩ := hv
    obtain rfl : n = n' := e1.symm
    by_cases hg : lo ≤ mlk S A p z ∧ mlk S A p z ≤ hi
    · rw [if_pos hg] at e0
      cases e0
      obtain ⟨hi0, hpz⟩ := mTx.pos h0 hg.1
      refine z_call C 10 (c_M_want hn 1) w_M_want ini_M d_M_letter_7 rfl (z_goV (As := [.int 1]) C l_M_122 w_M_want d_M_letter_7 (by omega) rfl rfl rfl) (Nat.le_of_ble_eq_true rfl) (by rw [hR]; simp only [zRm]; omega) (by rw [hR]; simp only [zRm]; omega) (by rw [hR]; simp only [zRm]; omega) (by rw [hR]; simp only [zRm]; omega) (fun v n' σ' hv => ?_) (fun x n' σ' hv => ?_)
      · obtain ⟨e0, e1, rfl⟩ := hv
        obtain rfl : n = n' := e1.symm
        cases e0
        rw [if_neg (show ¬ (1 : Int32) = 0 by decide)]
        refine z_aload_n C 11 d_M_letter_10 rfl rfl ?_
        refine zm_get C 14 f_M_104 d_M_letter_11 rfl hn rfl ?_
        refine z_if_eq C 17 19 d_M_letter_14 rfl (by decide) (fun _ => ?_) (fun h9 => absurd (show S 5 = 0 from hi0) h9)
        refine z_aload_n C 20 d_M_letter_19 rfl rfl ?_
        refine z_dup C 21 d_M_letter_20 rfl rfl ?_
        refine zm_get C 24 f_M_108 d_M_letter_21 rfl hn rfl ?_
        refine z_iconst C 25 d_M_letter_24 rfl 1 (by decide) ?_
        refine z_iadd C 26 d_M_letter_25 rfl ?_
        refine zm_puti C 29 p_M_108 d_M_letter_26 rfl hn (by decide) (rfl) rfl rfl ?_
        refine z_aload_n C 30 d_M_letter_29 rfl rfl ?_
        refine zm_get C 33 f_M_7 d_M_letter_30 rfl hn rfl ?_
        refine z_aload_n C 34 d_M_letter_33 rfl rfl ?_
        refine zm_get C 37 f_M_108 d_M_letter_34 rfl hn rfl ?_
        refine z_iconst C 38 d_M_letter_37 rfl 1 (by decide) ?_
        refine z_isub C 39 d_M_letter_38 rfl ?_
        have ex : upd S 4 (S 4 + 1) 4 - 1 = nI p := by
          show S 4 + 1 - 1 = nI p
          rw [Int32.add_sub_cancel]
          exact hT.1
        refine zm_cald C 40 p d_M_letter_39 rfl hn ex (by have := hT.2.2.1; omega) ?_
        refine z_iload_n C 41 d_M_letter_40 rfl rfl ?_
        refine z_isub C 42 d_M_letter_41 rfl ?_
        exact z_iret C rfl d_M_letter_42 (by rw [hpo]; exact ⟨rfl, Or.inl ⟨hg, by rw [mlk, if_pos ⟨hi0, hpz⟩], by rw [hT.1, nI_1]⟩⟩) (by rw [hmc]; omega) (by rw [hms]; omega)
      · cases hv.1
    · rw [if_neg hg] at e0
      cases e0
      refine z_call C 10 (c_M_want hn 0) w_M_want ini_M d_M_letter_7 rfl (z_goV (As := [.int 0]) C l_M_122 w_M_want d_M_letter_7 (by omega) rfl rfl rfl) (Nat.le_of_ble_eq_true rfl) (by rw [hR]; simp only [zRm]; omega) (by rw [hR]; simp only [zRm]; omega) (by rw [hR]; simp only [zRm]; omega) (by rw [hR]; simp only [zRm]; omega) (fun v n' σ' hv => ?_) (fun x n' σ' hv => ?_)
      · obtain ⟨e0, e1, rfl⟩ := hv
        obtain rfl : n = n' := e1.symm
        cases e0
        rw [if_pos rfl]
        refine z_aload_n C 11 d_M_letter_10 rfl rfl ?_
        refine zm_get C 14 f_M_104 d_M_letter_11 rfl hn rfl ?_
        refine z_if_eq C 17 19 d_M_letter_14 rfl (by decide) (fun h9 => absurd h9 (show ¬ upd S 5 1 5 = 0 by rw [show upd S 5 1 5 = 1 from rfl]; decide)) (fun _ => ?_)
        refine z_iconst C 18 d_M_letter_17 rfl 0 (by decide) ?_
        exact z_iret C rfl d_M_letter_18 (by rw [hpo]; exact ⟨rfl, Or.inr ⟨hg, rfl, rfl⟩⟩) (by rw [hmc]; omega) (by rw [hms]; omega)
      · cases hv.1
  · cases hv.1
/-- in an ill text nothing stands -/
theorem mlk_ill (h : S 5 = 1) : mlk S A p z = 0 := by
  rw [mlk, if_neg (fun q => absurd (h.symm.trans q.1) (by decide))]
theorem c_M_readFunction_bad (hn : 113 ≤ n) (hT : mTx S A 0 z) (hb : ¬ (65 ≤ mlk S A 0 z ∧ mlk S A 0 z ≤ 72)) : MetZ G l y_M_readFunction b_M_readFunction 4 (some .int) [] 3 0 0 [.ref 85] n (mOv S A L rn σ) (fun o n' σ' => o = .returned (some (.int 0)) ∧ n' = n ∧ σ' = mOv (upd (upd S 12 0) 5 1) (va_up (va_up A 93 (upd (A 93) 8 0)) 94 (upd (A 94) 8 0)) L rn σ) := by
  refine MetZ.of (by decide) (Nat.le_of_ble_eq_true rfl) (fun K hK hR hpo hmc hms C => ?_)
  refine z_aload_n C 1 d_M_readFunction_0 rfl rfl ?_
  refine z_iconst C 2 d_M_readFunction_1 rfl 0 (by decide) ?_
  refine zm_puti C 5 p_M_126 d_M_readFunction_2 rfl hn (by decide) (rfl) rfl rfl ?_
  refine z_aload_n C 6 d_M_readFunction_5 rfl rfl ?_
  refine zm_get C 9 f_M_37 d_M_readFunction_6 rfl hn rfl ?_
  refine z_bipush C 11 d_M_readFunction_9 rfl 8 (by decide) ?_
  refine z_iconst C 12 d_M_readFunction_11 rfl 0 (by decide) ?_
  refine zm_iast C 13 8 d_M_readFunction_12 rfl hn (by decide) (by decide) (by decide) rfl (by decide) (by decide) ?_
  have hT1 : mTx (upd S 12 0) (va_up A 93 (upd (A 93) 8 0)) 0 z := ⟨hT.1, hT.2.1, hT.2.2.1, hT.2.2.2.1, hT.2.2.2.2⟩
  have hT2 : mTx (upd (upd S 12 0) 5 1) (va_up A 93 (upd (A 93) 8 0)) 0 z := ⟨hT.1, hT.2.1, hT.2.2.1, hT.2.2.2.1, hT.2.2.2.2⟩
  have hl : mlk (upd (upd S 12 0) 5 1) (va_up A 93 (upd (A 93) 8 0)) 0 z = 0 := mlk_ill rfl
  have hs : upd (upd (upd S 12 0) 5 1) 5 1 = upd (upd S 12 0) 5 1 := upd_same rfl
  refine z_aload_n C 14 d_M_readFunction_13 rfl rfl ?_
  refine z_bipush C 16 d_M_readFunction_14 rfl 65 (by decide) ?_
  refine z_bipush C 18 d_M_readFunction_16 rfl 72 (by decide) ?_
  refine z_call C 21 (c_M_letter hn hT1 65 72 (by decide)) w_M_letter ini_M d_M_readFunction_18 rfl (z_goV (As := [.int 65, .int 72]) C l_M_132 w_M_letter d_M_readFunction_18 (by omega) rfl rfl rfl) (Nat.le_of_ble_eq_true rfl) (by rw [hR]; simp only [zRm]; omega) (by rw [hR]; simp only [zRm]; omega) (by rw [hR]; simp only [zRm]; omega) (by rw [hR]; simp only [zRm]; omega) (fun v n' σ' hv => ?_) (fun x n' σ' hv => ?_)
  · obtain ⟨e1, hv⟩ := hv
    obtain rfl : n = n' := e1.symm
    rcases hv with ⟨q, -⟩ | ⟨-, e0, rfl⟩
    · exact absurd q hb
    cases e0
    refine z_istore_n C 22 d_M_readFunction_21 rfl (by decide) ?_
    refine z_aload_n C 23 d_M_readFunction_22 rfl rfl ?_
    refine z_aload_n C 24 d_M_readFunction_23 rfl rfl ?_
    refine z_bipush C 26 d_M_readFunction_24 rfl 40 (by decide) ?_
    refine z_call C 29 (c_M_takes hn hT2 40) w_M_takes ini_M d_M_readFunction_26 rfl (z_goV (As := [.int 40]) C l_M_140 w_M_takes d_M_readFunction_26 (by omega) rfl rfl rfl) (Nat.le_of_ble_eq_true rfl) (by rw [hR]; simp only [zRm]; omega) (by rw [hR]; simp only [zRm]; omega) (by rw [hR]; simp only [zRm]; omega) (by rw [hR]; simp only [zRm]; omega) (fun v n' σ' hv => ?_) (fun x n' σ' hv => ?_)
    · obtain ⟨e0, e1, rfl⟩ := hv
      obtain rfl : n = n' := e1.symm
      rw [hl, if_neg (by decide)] at e0
      cases e0
      rw [hl, if_neg (by decide)]
      refine z_call C 32 (c_M_want hn 0) w_M_want ini_M d_M_readFunction_29 rfl (z_goV (As := [.int 0]) C l_M_122 w_M_want d_M_readFunction_29 (by omega) rfl rfl rfl) (Nat.le_of_ble_eq_true rfl) (by rw [hR]; simp only [zRm]; omega) (by rw [hR]; simp only [zRm]; omega) (by rw [hR]; simp only [zRm]; omega) (by rw [hR]; simp only [zRm]; omega) (fun v n' σ' hv => ?_) (fun x n' σ' hv => ?_)
      · obtain ⟨e0, e1, rfl⟩ := hv
        obtain rfl : n = n' := e1.symm
        cases e0
        rw [if_pos rfl, hs]
        refine z_aload_n C 33 d_M_readFunction_32 rfl rfl ?_
        refine z_bipush C 35 d_M_readFunction_33 rfl 41 (by decide) ?_
        refine z_call C 38 (c_M_takes hn hT2 41) w_M_takes ini_M d_M_readFunction_35 rfl (z_goV (As := [.int 41]) C l_M_140 w_M_takes d_M_readFunction_35 (by omega) rfl rfl rfl) (Nat.le_of_ble_eq_true rfl) (by rw [hR]; simp only [zRm]; omega) (by rw [hR]; simp only [zRm]; omega) (by rw [hR]; simp only [zRm]; omega) (by rw [hR]; simp only [zRm]; omega) (fun v n' σ' hv => ?_) (fun x n' σ' hv => ?_)
        · obtain ⟨e0, e1, rfl⟩ := hv
          obtain rfl : n = n' := e1.symm
          rw [hl, if_neg (by decide)] at e0
          cases e0
          rw [hl, if_neg (by decide)]
          refine z_if_ne C 41 164 d_M_readFunction_38 rfl (by decide) (fun h9 => absurd (show (0 : Int32) = 0 from rfl) h9) (fun _ => ?_)
          refine z_aload_n C 42 d_M_readFunction_41 rfl rfl ?_
          refine zm_get C 45 f_M_104 d_M_readFunction_42 rfl hn rfl ?_
          refine z_if_ne C 48 52 d_M_readFunction_45 rfl (by decide) (fun _ => ?_) (fun h9 => absurd h9 (show ¬ (1 : Int32) = 0 by decide))
          refine z_iconst C 53 d_M_readFunction_52 rfl 0 (by decide) ?_
          refine z_istore_n C 54 d_M_readFunction_53 rfl (by decide) ?_
          refine z_iload_n C 55 d_M_readFunction_54 rfl rfl ?_
          refine z_if_eq C 58 154 d_M_readFunction_55 rfl (by decide) (fun _ => ?_) (fun h9 => absurd (show (0 : Int32) = 0 from rfl) h9)
          refine z_aload_n C 155 d_M_readFunction_154 rfl rfl ?_
          refine z_aload_n C 156 d_M_readFunction_155 rfl rfl ?_
          refine z_bipush C 158 d_M_readFunction_156 rfl 41 (by decide) ?_
          refine z_call C 161 (c_M_takes hn hT2 41) w_M_takes ini_M d_M_readFunction_158 rfl (z_goV (As := [.int 41]) C l_M_140 w_M_takes d_M_readFunction_158 (by omega) rfl rfl rfl) (Nat.le_of_ble_eq_true rfl) (by rw [hR]; simp only [zRm]; omega) (by rw [hR]; simp only [zRm]; omega) (by rw [hR]; simp only [zRm]; omega) (by rw [hR]; simp only [zRm]; omega) (fun v n' σ' hv => ?_) (fun x n' σ' hv => ?_)
          · obtain ⟨e0, e1, rfl⟩ := hv
            obtain rfl : n = n' := e1.symm
            rw [hl, if_neg (by decide)] at e0
            cases e0
            rw [hl, if_neg (by decide)]
            refine z_call C 164 (c_M_want hn 0) w_M_want ini_M d_M_readFunction_161 rfl (z_goV (As := [.int 0]) C l_M_122 w_M_want d_M_readFunction_161 (by omega) rfl rfl rfl) (Nat.le_of_ble_eq_true rfl) (by rw [hR]; simp only [zRm]; omega) (by rw [hR]; simp only [zRm]; omega) (by rw [hR]; simp only [zRm]; omega) (by rw [hR]; simp only [zRm]; omega) (fun v n' σ' hv => ?_) (fun x n' σ' hv => ?_)
            · obtain ⟨e0, e1, rfl⟩ := hv
              obtain rfl : n = n' := e1.symm
              cases e0
              rw [if_pos rfl, hs]
              refine z_aload_n C 165 d_M_readFunction_164 rfl rfl ?_
              refine zm_get C 168 f_M_40 d_M_readFunction_165 rfl hn rfl ?_
              refine z_bipush C 170 d_M_readFunction_168 rfl 8 (by decide) ?_
              refine z_aload_n C 171 d_M_readFunction_170 rfl rfl ?_
              refine z_bipush C 173 d_M_readFunction_171 rfl 48 (by decide) ?_
              refine z_bipush C 175 d_M_readFunction_173 rfl 50 (by decide) ?_
              refine z_call C 178 (c_M_letter hn hT2 48 50 (by decide)) w_M_letter ini_M d_M_readFunction_175 rfl (z_goV (As := [.int 48, .int 50]) C l_M_132 w_M_letter d_M_readFunction_175 (by omega) rfl rfl rfl) (Nat.le_of_ble_eq_true rfl) (by rw [hR]; simp only [zRm]; omega) (by rw [hR]; simp only [zRm]; omega) (by rw [hR]; simp only [zRm]; omega) (by rw [hR]; simp only [zRm]; omega) (fun v n' σ' hv => ?_) (fun x n' σ' hv => ?_)
              · obtain ⟨e1, hv⟩ := hv
                obtain rfl : n = n' := e1.symm
                rcases hv with ⟨q, -⟩ | ⟨-, e0, rfl⟩
                · rw [hl] at q
                  exact absurd q.1 (by decide)
                cases e0
                rw [hs]
                refine zm_iast C 179 8 d_M_readFunction_178 rfl hn (by decide) (by decide) (by decide) rfl (by decide) (by decide) ?_
                refine z_aload_n C 180 d_M_readFunction_179 rfl rfl ?_
                refine z_aload_n C 181 d_M_readFunction_180 rfl rfl ?_
                refine z_bipush C 183 d_M_readFunction_181 rfl 61 (by decide) ?_
                have hT3 : mTx (upd (upd S 12 0) 5 1) (va_up (va_up A 93 (upd (A 93) 8 0)) 94 (upd (A 94) 8 0)) 0 z := ⟨hT.1, hT.2.1, hT.2.2.1, hT.2.2.2.1, hT.2.2.2.2⟩
                have hl3 : mlk (upd (upd S 12 0) 5 1) (va_up (va_up A 93 (upd (A 93) 8 0)) 94 (upd (A 94) 8 0)) 0 z = 0 := mlk_ill rfl
                refine z_call C 186 (c_M_takes hn hT3 61) w_M_takes ini_M d_M_readFunction_183 rfl (z_goV (As := [.int 61]) C l_M_140 w_M_takes d_M_readFunction_183 (by omega) rfl rfl rfl) (Nat.le_of_ble_eq_true rfl) (by rw [hR]; simp only [zRm]; omega) (by rw [hR]; simp only [zRm]; omega) (by rw [hR]; simp only [zRm]; omega) (by rw [hR]; simp only [zRm]; omega) (fun v n' σ' hv => ?_) (fun x n' σ' hv => ?_)
                · obtain ⟨e0, e1, rfl⟩ := hv
                  obtain rfl : n = n' := e1.symm
                  rw [hl3, if_neg (by decide)] at e0
                  cases e0
                  rw [hl3, if_neg (by decide)]
                  refine z_call C 189 (c_M_want hn 0) w_M_want ini_M d_M_readFunction_186 rfl (z_goV (As := [.int 0]) C l_M_122 w_M_want d_M_readFunction_186 (by omega) rfl rfl rfl) (Nat.le_of_ble_eq_true rfl) (by rw [hR]; simp only [zRm]; omega) (by rw [hR]; simp only [zRm]; omega) (by rw [hR]; simp only [zRm]; omega) (by rw [hR]; simp only [zRm]; omega) (fun v n' σ' hv => ?_) (fun x n' σ' hv => ?_)
                  · obtain ⟨e0, e1, rfl⟩ := hv
                    obtain rfl : n = n' := e1.symm
                    cases e0
                    rw [if_pos rfl, hs]
                    refine z_aload_n C 190 d_M_readFunction_189 rfl rfl ?_
                    refine zm_get C 193 f_M_104 d_M_readFunction_190 rfl hn rfl ?_
                    refine z_if_ne C 196 200 d_M_readFunction_193 rfl (by decide) (fun _ => ?_) (fun h9 => absurd h9 (show ¬ (1 : Int32) = 0 by decide))
                    refine z_aload_n C 201 d_M_readFunction_200 rfl rfl ?_
                    refine z_aload_n C 202 d_M_readFunction_201 rfl rfl ?_
                    refine zm_get C 205 f_M_108 d_M_readFunction_202 rfl hn rfl ?_
                    refine z_aload_n C 206 d_M_readFunction_205 rfl rfl ?_
                    refine zm_get C 209 f_M_111 d_M_readFunction_206 rfl hn rfl ?_
                    have fin : ∀ b : Int32, Z G K n (mOv (upd (upd S 12 0) 5 1) (va_up (va_up A 93 (upd (A 93) 8 0)) 94 (upd (A 94) 8 0)) L rn σ) 0 0 217 [(2, .int 0), (1, .int 0), (0, .ref 85)] [.int b, .ref 85] := fun b => by
                      refine z_call C 220 (c_M_want hn b) w_M_want ini_M d_M_readFunction_217 rfl (z_goV (As := [.int b]) C l_M_122 w_M_want d_M_readFunction_217 (by omega) rfl rfl rfl) (Nat.le_of_ble_eq_true rfl) (by rw [hR]; simp only [zRm]; omega) (by rw [hR]; simp only [zRm]; omega) (by rw [hR]; simp only [zRm]; omega) (by rw [hR]; simp only [zRm]; omega) (fun v n' σ' hv => ?_) (fun x n' σ' hv => ?_)
                      · obtain ⟨e0, e1, rfl⟩ := hv
                        obtain rfl : n = n' := e1.symm
                        cases e0
                        have hw : (if b = 0 then upd (upd (upd S 12 0) 5 1) 5 1 else upd (upd S 12 0) 5 1) = upd (upd S 12 0) 5 1 := by
                          rw [hs]
                          split <;> rfl
                        rw [hw]
                        refine z_iload_n C 221 d_M_readFunction_220 rfl rfl ?_
                        exact z_iret C rfl d_M_readFunction_221 (by rw [hpo]; exact ⟨rfl, rfl, rfl⟩) (by rw [hmc]; omega) (by rw [hms]; omega)
                      · cases hv.1
                    refine z_icmp_ne C 212 216 d_M_readFunction_209 rfl (by decide) (fun q => ?_) (fun q => ?_)
                    · refine z_iconst C 217 d_M_readFunction_216 rfl 0 (by decide) ?_
                      exact fin 0
                    · refine z_iconst C 213 d_M_readFunction_212 rfl 1 (by decide) ?_
                      refine z_goto C 217 d_M_readFunction_213 (by decide) ?_
                      exact fin 1
                  · cases hv.1
                · cases hv.1
              · obtain ⟨-, hv⟩ := hv
                rcases hv with ⟨-, e0, -⟩ | ⟨-, e0, -⟩ <;> cases e0
            · cases hv.1
          · cases hv.1
        · cases hv.1
      · cases hv.1
    · cases hv.1
  · obtain ⟨-, hv⟩ := hv
    rcases hv with ⟨-, e0, -⟩ | ⟨-, e0, -⟩ <;> cases e0
theorem c_M_define_bad (hn : 113 ≤ n) (h2 : S 2 = nI z) (hz : z ≤ 150) (hc : ∀ i, i < 150 → narrow .char (.int (A 86 i)) = .int (A 86 i)) (hb : ¬ (65 ≤ mlk (upd (upd S 4 0) 5 0) A 0 z ∧ mlk (upd (upd S 4 0) 5 0) A 0 z ≤ 72)) : MetZ G l y_M_define b_M_define 4 (some .int) [] 4 0 0 [.ref 85] n (mOv S A L rn σ)
    (fun o n' σ' => o = .returned (some (.int 0)) ∧ n' = n ∧ σ' = mOv (upd (upd (upd (upd (upd (upd (upd (upd S 4 0) 5 0) 12 0) 5 1) 6 0) 2 0) 1 0) 0 1) (va_up (va_up A 93 (upd (A 93) 8 0)) 94 (upd (A 94) 8 0)) L rn σ) := by
  refine MetZ.of (by decide) (Nat.le_of_ble_eq_true rfl) (fun K hK hR hpo hmc hms C => ?_)
  refine z_aload_n C 1 d_M_define_0 rfl rfl ?_
  refine z_iconst C 2 d_M_define_1 rfl 0 (by decide) ?_
  refine zm_puti C 5 p_M_108 d_M_define_2 rfl hn (by decide) (rfl) rfl rfl ?_
  refine z_aload_n C 6 d_M_define_5 rfl rfl ?_
  refine z_iconst C 7 d_M_define_6 rfl 0 (by decide) ?_
  refine zm_puti C 10 p_M_104 d_M_define_7 rfl hn (by decide) (rfl) rfl rfl ?_
  refine z_aload_n C 11 d_M_define_10 rfl rfl ?_
  refine z_call C 14 (c_M_readFunction_bad (z := z) hn ⟨rfl, h2, hz, by omega, hc⟩ hb) w_M_readFunction ini_M d_M_define_11 rfl (z_goV (As := []) C l_M_210 w_M_readFunction d_M_define_11 (by omega) rfl rfl rfl) (Nat.le_of_ble_eq_true rfl) (by rw [hR]; simp only [zRm]; omega) (by rw [hR]; simp only [zRm]; omega) (by rw [hR]; simp only [zRm]; omega) (by rw [hR]; simp only [zRm]; omega) (fun v n' σ' hv => ?_) (fun x n' σ' hv => ?_)
  · obtain ⟨e0, e1, rfl⟩ := hv
    cases e0
    obtain rfl : n = n' := e1.symm
    refine z_istore_n C 15 d_M_define_14 rfl (by decide) ?_
    refine z_aload_n C 16 d_M_define_15 rfl rfl ?_
    refine z_aload_n C 17 d_M_define_16 rfl rfl ?_
    refine zm_get C 20 f_M_104 d_M_define_17 rfl hn rfl ?_
    refine z_if_eq C 23 30 d_M_define_20 rfl (by decide) (fun h9 => absurd h9 (show ¬ (1 : Int32) = 0 by decide)) (fun _ => ?_)
    refine z_aload_n C 24 d_M_define_23 rfl rfl ?_
    refine zm_get C 27 f_M_108 d_M_define_24 rfl hn rfl ?_
    refine z_goto C 31 d_M_define_27 (by decide) ?_
    refine zm_puti C 34 p_M_13 d_M_define_31 rfl hn (by decide) (rfl) rfl rfl ?_
    refine z_aload_n C 35 d_M_define_34 rfl rfl ?_
    refine z_iconst C 36 d_M_define_35 rfl 0 (by decide) ?_
    refine zm_puti C 39 p_M_111 d_M_define_36 rfl hn (by decide) (rfl) rfl rfl ?_
    refine z_aload_n C 40 d_M_define_39 rfl rfl ?_
    refine z_iconst C 41 d_M_define_40 rfl 0 (by decide) ?_
    refine zm_puti C 44 p_M_207 d_M_define_41 rfl hn (by decide) (rfl) rfl rfl ?_
    refine z_aload_n C 45 d_M_define_44 rfl rfl ?_
    refine z_aload_n C 46 d_M_define_45 rfl rfl ?_
    refine zm_get C 49 f_M_104 d_M_define_46 rfl hn rfl ?_
    refine z_if_eq C 52 56 d_M_define_49 rfl (by decide) (fun h9 => absurd h9 (show ¬ (1 : Int32) = 0 by decide)) (fun _ => ?_)
    refine z_iconst C 53 d_M_define_52 rfl 1 (by decide) ?_
    refine z_goto C 57 d_M_define_53 (by decide) ?_
    refine zm_puti C 60 p_M_101 d_M_define_57 rfl hn (by decide) (rfl) rfl rfl ?_
    refine z_aload_n C 61 d_M_define_60 rfl rfl ?_
    refine zm_get C 64 f_M_104 d_M_define_61 rfl hn rfl ?_
    refine z_if_eq C 67 69 d_M_define_64 rfl (by decide) (fun h9 => absurd h9 (show ¬ (1 : Int32) = 0 by decide)) (fun _ => ?_)
    refine z_iconst C 68 d_M_define_67 rfl 0 (by decide) ?_
    exact z_iret C rfl d_M_define_68 (by rw [hpo]; exact ⟨rfl, rfl, rfl⟩) (by rw [hmc]; omega) (by rw [hms]; omega)
  · cases hv.1
theorem c_M_isRun_no (hn : 113 ≤ n) (f : Int32) (hb : ∀ k, k < 8 → f = nI k → A 92 k = 0) : MetZ G l y_M_isRun b_M_isRun 4 (some .boolean) [] 0 0 0 [.ref 85, .int f] n (mOv S A L rn σ) (fun o n' σ' => o = .returned (some (.int 0)) ∧ n' = n ∧ σ' = mOv S A L rn σ) := by
  refine MetZ.of (by decide) (Nat.le_of_ble_eq_true rfl) (fun K hK hR hpo hmc hms C => ?_)
  refine z_iload_n C 1 d_M_isRun_0 rfl rfl ?_
  refine z_if_lt C 4 19 d_M_isRun_1 rfl (by decide) (fun h1 => ?_) (fun h1 => ?_)
  · refine z_iconst C 20 d_M_isRun_19 rfl 0 (by decide) ?_
    exact z_zret C rfl (rfl) d_M_isRun_20 (by rw [hpo]; exact ⟨rfl, rfl, rfl⟩) (by rw [hmc]; omega) (by rw [hms]; omega)
  refine z_iload_n C 5 d_M_isRun_4 rfl rfl ?_
  refine z_bipush C 7 d_M_isRun_5 rfl 7 (by decide) ?_
  refine z_icmp_gt C 10 19 d_M_isRun_7 rfl (by decide) (fun h2 => ?_) (fun h2 => ?_)
  · refine z_iconst C 20 d_M_isRun_19 rfl 0 (by decide) ?_
    exact z_zret C rfl (rfl) d_M_isRun_20 (by rw [hpo]; exact ⟨rfl, rfl, rfl⟩) (by rw [hmc]; omega) (by rw [hms]; omega)
  refine z_aload_n C 11 d_M_isRun_10 rfl rfl ?_
  refine zm_get C 14 f_M_33 d_M_isRun_11 rfl hn rfl ?_
  refine z_iload_n C 15 d_M_isRun_14 rfl rfl ?_
  obtain ⟨k, hk, ek⟩ := nI_of2 (n := 7) (M := 7) rfl h1 (Int32.not_lt.mp h2)
  refine zm_zald C 16 k d_M_isRun_15 rfl hn ek (by omega) ?_
  rw [hb k (by omega) ek]
  refine z_if_ne C 19 21 d_M_isRun_16 rfl (by decide) (fun h9 => absurd (show (0 : Int32) = 0 from rfl) h9) (fun _ => ?_)
  refine z_iconst C 20 d_M_isRun_19 rfl 0 (by decide) ?_
  exact z_zret C rfl (rfl) d_M_isRun_20 (by rw [hpo]; exact ⟨rfl, rfl, rfl⟩) (by rw [hmc]; omega) (by rw [hms]; omega)
theorem c_M_run_no (hn : 113 ≤ n) (c : Int32) (hb : ∀ k, k < 8 → c - 65 = nI k → A 92 k = 0) : MetZ G l y_M_run b_M_run 5 (some .int) [] 1 0 0 [.ref 85, .int c] n (mOv S A L rn σ) (fun o n' σ' => o = .returned (some (.int 0)) ∧ n' = n ∧ σ' = mOv (upd S 0 1) A L rn σ) := by
  refine MetZ.of (by decide) (Nat.le_of_ble_eq_true rfl) (fun K hK hR hpo hmc hms C => ?_)
  refine z_iload_n C 1 d_M_run_0 rfl rfl ?_
  refine z_bipush C 3 d_M_run_1 rfl 65 (by decide) ?_
  refine z_isub C 4 d_M_run_3 rfl ?_
  refine z_istore_n C 5 d_M_run_4 rfl (by decide) ?_
  refine z_aload_n C 6 d_M_run_5 rfl rfl ?_
  refine z_aload_n C 7 d_M_run_6 rfl rfl ?_
  refine z_iload_n C 8 d_M_run_7 rfl rfl ?_
  refine z_call C 11 (c_M_isRun_no hn (c - 65) hb) w_M_isRun ini_M d_M_run_8 rfl (z_goV (As := [.int (c - 65)]) C l_M_281 w_M_isRun d_M_run_8 (by omega) rfl rfl rfl) (Nat.le_of_ble_eq_true rfl) (by rw [hR]; simp only [zRm]; omega) (by rw [hR]; simp only [zRm]; omega) (by rw [hR]; simp only [zRm]; omega) (by rw [hR]; simp only [zRm]; omega) (fun v n' σ' hv => ?_) (fun x n' σ' hv => ?_)
  · obtain ⟨e0, e1, rfl⟩ := hv
    cases e0
    obtain rfl : n = n' := e1.symm
    refine z_if_eq C 14 18 d_M_run_11 rfl (by decide) (fun _ => ?_) (fun h9 => absurd (show (0 : Int32) = 0 from rfl) h9)
    refine z_iconst C 19 d_M_run_18 rfl 1 (by decide) ?_
    refine zm_puti C 22 p_M_101 d_M_run_19 rfl hn (by decide) (rfl) rfl rfl ?_
    refine z_aload_n C 23 d_M_run_22 rfl rfl ?_
    refine zm_get C 26 f_M_101 d_M_run_23 rfl hn rfl ?_
    refine z_if_eq C 29 31 d_M_run_26 rfl (by decide) (fun h9 => absurd h9 (show ¬ (1 : Int32) = 0 by decide)) (fun _ => ?_)
    refine z_iconst C 30 d_M_run_29 rfl 0 (by decide) ?_
    exact z_iret C rfl d_M_run_30 (by rw [hpo]; exact ⟨rfl, rfl, rfl⟩) (by rw [hmc]; omega) (by rw [hms]; omega)
  · cases hv.1
end BM
