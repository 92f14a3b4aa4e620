theorem d_U_readNumber_0 : decode b_U_readNumber 0 = .ok (.aload_n 0, 1) := by decide +kernel
theorem d_U_readNumber_1 : decode b_U_readNumber 1 = .ok (.aload_n 1, 1) := by decide +kernel
theorem d_U_readNumber_2 : decode b_U_readNumber 2 = .ok (.getfield 88, 3) := by decide +kernel
theorem d_U_readNumber_5 : decode b_U_readNumber 5 = .ok (.iconst 0, 1) := by decide +kernel
theorem d_U_readNumber_6 : decode b_U_readNumber 6 = .ok (.aaload, 1) := by decide +kernel
theorem d_U_readNumber_7 : decode b_U_readNumber 7 = .ok (.iload_n 2, 1) := by decide +kernel
theorem d_U_readNumber_8 : decode b_U_readNumber 8 = .ok (.iload_n 3, 1) := by decide +kernel
theorem d_U_readNumber_9 : decode b_U_readNumber 9 = .ok (.invokevirtual 49, 3) := by decide +kernel
theorem d_U_readNumber_12 : decode b_U_readNumber 12 = .ok (.lstore 4, 2) := by decide +kernel
theorem d_U_readNumber_14 : decode b_U_readNumber 14 = .ok (.aload_n 1, 1) := by decide +kernel
theorem d_U_readNumber_15 : decode b_U_readNumber 15 = .ok (.getfield 136, 3) := by decide +kernel
theorem d_U_readNumber_18 : decode b_U_readNumber 18 = .ok (.iconst 2, 1) := by decide +kernel
theorem d_U_readNumber_19 : decode b_U_readNumber 19 = .ok (.if_icmp .ne 18, 3) := by decide +kernel
theorem d_U_readNumber_22 : decode b_U_readNumber 22 = .ok (.aload_n 0, 1) := by decide +kernel
theorem d_U_readNumber_23 : decode b_U_readNumber 23 = .ok (.aload_n 1, 1) := by decide +kernel
theorem d_U_readNumber_24 : decode b_U_readNumber 24 = .ok (.getfield 88, 3) := by decide +kernel
theorem d_U_readNumber_27 : decode b_U_readNumber 27 = .ok (.iconst 1, 1) := by decide +kernel
theorem d_U_readNumber_28 : decode b_U_readNumber 28 = .ok (.aaload, 1) := by decide +kernel
theorem d_U_readNumber_29 : decode b_U_readNumber 29 = .ok (.iload_n 2, 1) := by decide +kernel
theorem d_U_readNumber_30 : decode b_U_readNumber 30 = .ok (.iload_n 3, 1) := by decide +kernel
theorem d_U_readNumber_31 : decode b_U_readNumber 31 = .ok (.invokevirtual 49, 3) := by decide +kernel
theorem d_U_readNumber_34 : decode b_U_readNumber 34 = .ok (.goto 4, 3) := by decide +kernel
theorem d_U_readNumber_37 : decode b_U_readNumber 37 = .ok (.lconst 0, 1) := by decide +kernel
theorem d_U_readNumber_38 : decode b_U_readNumber 38 = .ok (.lstore 6, 2) := by decide +kernel
theorem d_U_readNumber_40 : decode b_U_readNumber 40 = .ok (.aload_n 0, 1) := by decide +kernel
theorem d_U_readNumber_41 : decode b_U_readNumber 41 = .ok (.getfield 12, 3) := by decide +kernel
theorem d_U_readNumber_44 : decode b_U_readNumber 44 = .ok (.aload_n 0, 1) := by decide +kernel
theorem d_U_readNumber_45 : decode b_U_readNumber 45 = .ok (.aload_n 1, 1) := by decide +kernel
theorem d_U_readNumber_46 : decode b_U_readNumber 46 = .ok (.iload_n 3, 1) := by decide +kernel
theorem d_U_readNumber_47 : decode b_U_readNumber 47 = .ok (.invokevirtual 109, 3) := by decide +kernel
theorem d_U_readNumber_50 : decode b_U_readNumber 50 = .ok (.lload 4, 2) := by decide +kernel
theorem d_U_readNumber_52 : decode b_U_readNumber 52 = .ok (.lload 6, 2) := by decide +kernel
theorem d_U_readNumber_54 : decode b_U_readNumber 54 = .ok (.invokevirtual 139, 3) := by decide +kernel
theorem d_U_readNumber_57 : decode b_U_readNumber 57 = .ok (.lreturn, 1) := by decide +kernel
theorem d_U_update_0 : decode b_U_update 0 = .ok (.aload_n 0, 1) := by decide +kernel
theorem d_U_update_1 : decode b_U_update 1 = .ok (.aload_n 1, 1) := by decide +kernel
theorem d_U_update_2 : decode b_U_update 2 = .ok (.getfield 88, 3) := by decide +kernel
theorem d_U_update_5 : decode b_U_update 5 = .ok (.iconst 0, 1) := by decide +kernel
theorem d_U_update_6 : decode b_U_update 6 = .ok (.aaload, 1) := by decide +kernel
theorem d_U_update_7 : decode b_U_update 7 = .ok (.iload_n 2, 1) := by decide +kernel
theorem d_U_update_8 : decode b_U_update 8 = .ok (.iload_n 3, 1) := by decide +kernel
theorem d_U_update_9 : decode b_U_update 9 = .ok (.invokevirtual 49, 3) := by decide +kernel
theorem d_U_update_12 : decode b_U_update 12 = .ok (.lstore 4, 2) := by decide +kernel
theorem d_U_update_14 : decode b_U_update 14 = .ok (.aload_n 1, 1) := by decide +kernel
theorem d_U_update_15 : decode b_U_update 15 = .ok (.getfield 136, 3) := by decide +kernel
theorem d_U_update_18 : decode b_U_update 18 = .ok (.iconst 3, 1) := by decide +kernel
theorem d_U_update_19 : decode b_U_update 19 = .ok (.if_icmp .ne 18, 3) := by decide +kernel
theorem d_U_update_22 : decode b_U_update 22 = .ok (.aload_n 0, 1) := by decide +kernel
theorem d_U_update_23 : decode b_U_update 23 = .ok (.aload_n 1, 1) := by decide +kernel
theorem d_U_update_24 : decode b_U_update 24 = .ok (.getfield 88, 3) := by decide +kernel
theorem d_U_update_27 : decode b_U_update 27 = .ok (.iconst 1, 1) := by decide +kernel
theorem d_U_update_28 : decode b_U_update 28 = .ok (.aaload, 1) := by decide +kernel
theorem d_U_update_29 : decode b_U_update 29 = .ok (.iload_n 2, 1) := by decide +kernel
theorem d_U_update_30 : decode b_U_update 30 = .ok (.iload_n 3, 1) := by decide +kernel
theorem d_U_update_31 : decode b_U_update 31 = .ok (.invokevirtual 49, 3) := by decide +kernel
theorem d_U_update_34 : decode b_U_update 34 = .ok (.goto 4, 3) := by decide +kernel
theorem d_U_update_37 : decode b_U_update 37 = .ok (.lconst 0, 1) := by decide +kernel
theorem d_U_update_38 : decode b_U_update 38 = .ok (.lstore 6, 2) := by decide +kernel
theorem d_U_update_40 : decode b_U_update 40 = .ok (.aload_n 0, 1) := by decide +kernel
theorem d_U_update_41 : decode b_U_update 41 = .ok (.aload_n 1, 1) := by decide +kernel
theorem d_U_update_42 : decode b_U_update 42 = .ok (.getfield 88, 3) := by decide +kernel
theorem d_U_update_45 : decode b_U_update 45 = .ok (.aload_n 1, 1) := by decide +kernel
theorem d_U_update_46 : decode b_U_update 46 = .ok (.getfield 136, 3) := by decide +kernel
theorem d_U_update_49 : decode b_U_update 49 = .ok (.iconst 1, 1) := by decide +kernel
theorem d_U_update_50 : decode b_U_update 50 = .ok (.isub, 1) := by decide +kernel
theorem d_U_update_51 : decode b_U_update 51 = .ok (.aaload, 1) := by decide +kernel
theorem d_U_update_52 : decode b_U_update 52 = .ok (.iload_n 2, 1) := by decide +kernel
theorem d_U_update_53 : decode b_U_update 53 = .ok (.iload_n 3, 1) := by decide +kernel
theorem d_U_update_54 : decode b_U_update 54 = .ok (.invokevirtual 49, 3) := by decide +kernel
theorem d_U_update_57 : decode b_U_update 57 = .ok (.lstore 8, 2) := by decide +kernel
theorem d_U_update_59 : decode b_U_update 59 = .ok (.aload_n 0, 1) := by decide +kernel
theorem d_U_update_60 : decode b_U_update 60 = .ok (.aload_n 1, 1) := by decide +kernel
theorem d_U_update_61 : decode b_U_update 61 = .ok (.iload_n 3, 1) := by decide +kernel
theorem d_U_update_62 : decode b_U_update 62 = .ok (.invokevirtual 109, 3) := by decide +kernel
theorem d_U_update_65 : decode b_U_update 65 = .ok (.istore 10, 2) := by decide +kernel
theorem d_U_update_67 : decode b_U_update 67 = .ok (.aload_n 0, 1) := by decide +kernel
theorem d_U_update_68 : decode b_U_update 68 = .ok (.getfield 12, 3) := by decide +kernel
theorem d_U_update_71 : decode b_U_update 71 = .ok (.iload 10, 2) := by decide +kernel
theorem d_U_update_73 : decode b_U_update 73 = .ok (.lload 4, 2) := by decide +kernel
theorem d_U_update_75 : decode b_U_update 75 = .ok (.lload 6, 2) := by decide +kernel
theorem d_U_update_77 : decode b_U_update 77 = .ok (.lload 8, 2) := by decide +kernel
theorem d_U_update_79 : decode b_U_update 79 = .ok (.invokevirtual 143, 3) := by decide +kernel
theorem d_U_update_82 : decode b_U_update 82 = .ok (.aload_n 0, 1) := by decide +kernel
theorem d_U_update_83 : decode b_U_update 83 = .ok (.dup, 1) := by decide +kernel
theorem d_U_update_84 : decode b_U_update 84 = .ok (.getfield 22, 3) := by decide +kernel
theorem d_U_update_87 : decode b_U_update 87 = .ok (.iconst 1, 1) := by decide +kernel
theorem d_U_update_88 : decode b_U_update 88 = .ok (.iadd, 1) := by decide +kernel
theorem d_U_update_89 : decode b_U_update 89 = .ok (.putfield 22, 3) := by decide +kernel
theorem d_U_update_92 : decode b_U_update 92 = .ok (.iload 10, 2) := by decide +kernel
theorem d_U_update_94 : decode b_U_update 94 = .ok (.i2l, 1) := by decide +kernel
theorem d_U_update_95 : decode b_U_update 95 = .ok (.lreturn, 1) := by decide +kernel
theorem d_U_call_0 : decode b_U_call 0 = .ok (.aload_n 1, 1) := by decide +kernel
theorem d_U_call_1 : decode b_U_call 1 = .ok (.getfield 147, 3) := by decide +kernel
theorem d_U_call_4 : decode b_U_call 4 = .ok (.astore 4, 2) := by decide +kernel
theorem d_U_call_6 : decode b_U_call 6 = .ok (.aload_n 0, 1) := by decide +kernel
theorem d_U_call_7 : decode b_U_call 7 = .ok (.getfield 30, 3) := by decide +kernel
theorem d_U_call_10 : decode b_U_call 10 = .ok (.istore 5, 2) := by decide +kernel
theorem d_U_call_12 : decode b_U_call 12 = .ok (.aload_n 0, 1) := by decide +kernel
theorem d_U_call_13 : decode b_U_call 13 = .ok (.dup, 1) := by decide +kernel
theorem d_U_call_14 : decode b_U_call 14 = .ok (.getfield 30, 3) := by decide +kernel
theorem d_U_call_17 : decode b_U_call 17 = .ok (.iconst 1, 1) := by decide +kernel
theorem d_U_call_18 : decode b_U_call 18 = .ok (.iadd, 1) := by decide +kernel
theorem d_U_call_19 : decode b_U_call 19 = .ok (.putfield 30, 3) := by decide +kernel
theorem d_U_call_22 : decode b_U_call 22 = .ok (.iconst 0, 1) := by decide +kernel
theorem d_U_call_23 : decode b_U_call 23 = .ok (.istore 6, 2) := by decide +kernel
theorem d_U_call_25 : decode b_U_call 25 = .ok (.iload 6, 2) := by decide +kernel
theorem d_U_call_27 : decode b_U_call 27 = .ok (.aload_n 1, 1) := by decide +kernel
theorem d_U_call_28 : decode b_U_call 28 = .ok (.getfield 136, 3) := by decide +kernel
theorem d_U_call_31 : decode b_U_call 31 = .ok (.if_icmp .ge 38, 3) := by decide +kernel
theorem d_U_call_34 : decode b_U_call 34 = .ok (.aload_n 0, 1) := by decide +kernel
theorem d_U_call_35 : decode b_U_call 35 = .ok (.getfield 27, 3) := by decide +kernel
theorem d_U_call_38 : decode b_U_call 38 = .ok (.iload 5, 2) := by decide +kernel
theorem d_U_call_40 : decode b_U_call 40 = .ok (.aaload, 1) := by decide +kernel
theorem d_U_call_41 : decode b_U_call 41 = .ok (.aload 4, 2) := by decide +kernel
theorem d_U_call_43 : decode b_U_call 43 = .ok (.getfield 41, 3) := by decide +kernel
theorem d_U_call_46 : decode b_U_call 46 = .ok (.iload 6, 2) := by decide +kernel
theorem d_U_call_48 : decode b_U_call 48 = .ok (.iaload, 1) := by decide +kernel
theorem d_U_call_49 : decode b_U_call 49 = .ok (.aload_n 0, 1) := by decide +kernel
theorem d_U_call_50 : decode b_U_call 50 = .ok (.aload_n 1, 1) := by decide +kernel
theorem d_U_call_51 : decode b_U_call 51 = .ok (.getfield 88, 3) := by decide +kernel
theorem d_U_call_54 : decode b_U_call 54 = .ok (.iload 6, 2) := by decide +kernel
theorem d_U_call_56 : decode b_U_call 56 = .ok (.aaload, 1) := by decide +kernel
theorem d_U_call_57 : decode b_U_call 57 = .ok (.iload_n 2, 1) := by decide +kernel
theorem d_U_call_58 : decode b_U_call 58 = .ok (.iload_n 3, 1) := by decide +kernel
theorem d_U_call_59 : decode b_U_call 59 = .ok (.invokevirtual 49, 3) := by decide +kernel
theorem d_U_call_62 : decode b_U_call 62 = .ok (.lastore, 1) := by decide +kernel
theorem d_U_call_63 : decode b_U_call 63 = .ok (.iinc 6 1, 3) := by decide +kernel
theorem d_U_call_66 : decode b_U_call 66 = .ok (.goto (-41), 3) := by decide +kernel
theorem d_U_call_69 : decode b_U_call 69 = .ok (.iload_n 2, 1) := by decide +kernel
theorem d_U_call_70 : decode b_U_call 70 = .ok (.bipush 8, 2) := by decide +kernel
theorem d_U_call_72 : decode b_U_call 72 = .ok (.if_icmp .lt 13, 3) := by decide +kernel
theorem d_U_call_75 : decode b_U_call 75 = .ok (.new 53, 3) := by decide +kernel
theorem d_U_call_78 : decode b_U_call 78 = .ok (.dup, 1) := by decide +kernel
theorem d_U_call_79 : decode b_U_call 79 = .ok (.ldc 151, 2) := by decide +kernel
theorem d_U_call_81 : decode b_U_call 81 = .ok (.invokespecial 57, 3) := by decide +kernel
theorem d_U_call_84 : decode b_U_call 84 = .ok (.athrow, 1) := by decide +kernel
theorem d_U_call_85 : decode b_U_call 85 = .ok (.aload_n 0, 1) := by decide +kernel
theorem d_U_call_86 : decode b_U_call 86 = .ok (.aload 4, 2) := by decide +kernel
theorem d_U_call_88 : decode b_U_call 88 = .ok (.getfield 45, 3) := by decide +kernel
theorem d_U_call_91 : decode b_U_call 91 = .ok (.iload_n 2, 1) := by decide +kernel
theorem d_U_call_92 : decode b_U_call 92 = .ok (.iconst 1, 1) := by decide +kernel
theorem d_U_call_93 : decode b_U_call 93 = .ok (.iadd, 1) := by decide +kernel
theorem d_U_call_94 : decode b_U_call 94 = .ok (.iload 5, 2) := by decide +kernel
theorem d_U_call_96 : decode b_U_call 96 = .ok (.invokevirtual 49, 3) := by decide +kernel
theorem d_U_call_99 : decode b_U_call 99 = .ok (.lstore 6, 2) := by decide +kernel
theorem d_U_call_101 : decode b_U_call 101 = .ok (.aload_n 0, 1) := by decide +kernel
theorem d_U_call_102 : decode b_U_call 102 = .ok (.dup, 1) := by decide +kernel
theorem d_U_call_103 : decode b_U_call 103 = .ok (.getfield 30, 3) := by decide +kernel
theorem d_U_call_106 : decode b_U_call 106 = .ok (.iconst 1, 1) := by decide +kernel
theorem d_U_call_107 : decode b_U_call 107 = .ok (.isub, 1) := by decide +kernel
theorem d_U_call_108 : decode b_U_call 108 = .ok (.putfield 30, 3) := by decide +kernel
theorem d_U_call_111 : decode b_U_call 111 = .ok (.lload 6, 2) := by decide +kernel
theorem d_U_call_113 : decode b_U_call 113 = .ok (.lreturn, 1) := by decide +kernel
theorem d_U_work_0 : decode b_U_work 0 = .ok (.aload_n 0, 1) := by decide +kernel
theorem d_U_work_1 : decode b_U_work 1 = .ok (.getfield 18, 3) := by decide +kernel
theorem d_U_work_4 : decode b_U_work 4 = .ok (.sipush 400, 3) := by decide +kernel
theorem d_U_work_7 : decode b_U_work 7 = .ok (.if_icmp .lt 13, 3) := by decide +kernel
theorem d_U_work_10 : decode b_U_work 10 = .ok (.new 53, 3) := by decide +kernel
theorem d_U_work_13 : decode b_U_work 13 = .ok (.dup, 1) := by decide +kernel
theorem d_U_work_14 : decode b_U_work 14 = .ok (.ldc 55, 2) := by decide +kernel
theorem d_U_work_16 : decode b_U_work 16 = .ok (.invokespecial 57, 3) := by decide +kernel
theorem d_U_work_19 : decode b_U_work 19 = .ok (.athrow, 1) := by decide +kernel
theorem d_U_work_20 : decode b_U_work 20 = .ok (.aload_n 0, 1) := by decide +kernel
theorem d_U_work_21 : decode b_U_work 21 = .ok (.dup, 1) := by decide +kernel
theorem d_U_work_22 : decode b_U_work 22 = .ok (.getfield 18, 3) := by decide +kernel
theorem d_U_work_25 : decode b_U_work 25 = .ok (.iconst 1, 1) := by decide +kernel
theorem d_U_work_26 : decode b_U_work 26 = .ok (.iadd, 1) := by decide +kernel
theorem d_U_work_27 : decode b_U_work 27 = .ok (.putfield 18, 3) := by decide +kernel
theorem d_U_work_30 : decode b_U_work 30 = .ok (.getstatic 60, 3) := by decide +kernel
theorem d_U_work_33 : decode b_U_work 33 = .ok (.aload_n 1, 1) := by decide +kernel
theorem d_U_work_34 : decode b_U_work 34 = .ok (.getfield 65, 3) := by decide +kernel
theorem d_U_work_37 : decode b_U_work 37 = .ok (.invokevirtual 71, 3) := by decide +kernel
theorem d_U_work_40 : decode b_U_work 40 = .ok (.iaload, 1) := by decide +kernel
theorem d_U_work_41 : decode b_U_work 41 = .ok (.tableswitch 338 1 14 #[76, 120, 158, 194, 216, 249, 257, 265, 281, 297, 312, 338, 71, 88], 71) := by decide +kernel
theorem d_U_work_112 : decode b_U_work 112 = .ok (.aload_n 1, 1) := by decide +kernel
theorem d_U_work_113 : decode b_U_work 113 = .ok (.getfield 77, 3) := by decide +kernel
theorem d_U_work_116 : decode b_U_work 116 = .ok (.lreturn, 1) := by decide +kernel
theorem d_U_work_117 : decode b_U_work 117 = .ok (.aload_n 0, 1) := by decide +kernel
theorem d_U_work_118 : decode b_U_work 118 = .ok (.getfield 27, 3) := by decide +kernel
theorem d_U_work_121 : decode b_U_work 121 = .ok (.iload_n 3, 1) := by decide +kernel
theorem d_U_work_122 : decode b_U_work 122 = .ok (.aaload, 1) := by decide +kernel
theorem d_U_work_123 : decode b_U_work 123 = .ok (.aload_n 1, 1) := by decide +kernel
theorem d_U_work_124 : decode b_U_work 124 = .ok (.getfield 81, 3) := by decide +kernel
theorem d_U_work_127 : decode b_U_work 127 = .ok (.laload, 1) := by decide +kernel
theorem d_U_work_128 : decode b_U_work 128 = .ok (.lreturn, 1) := by decide +kernel
theorem d_U_work_129 : decode b_U_work 129 = .ok (.aload_n 1, 1) := by decide +kernel
theorem d_U_work_130 : decode b_U_work 130 = .ok (.getfield 84, 3) := by decide +kernel
theorem d_U_work_133 : decode b_U_work 133 = .ok (.aload_n 0, 1) := by decide +kernel
theorem d_U_work_134 : decode b_U_work 134 = .ok (.aload_n 1, 1) := by decide +kernel
theorem d_U_work_135 : decode b_U_work 135 = .ok (.getfield 88, 3) := by decide +kernel
theorem d_U_work_138 : decode b_U_work 138 = .ok (.iconst 0, 1) := by decide +kernel
theorem d_U_work_139 : decode b_U_work 139 = .ok (.aaload, 1) := by decide +kernel
theorem d_U_work_140 : decode b_U_work 140 = .ok (.iload_n 2, 1) := by decide +kernel
theorem d_U_work_141 : decode b_U_work 141 = .ok (.iload_n 3, 1) := by decide +kernel
theorem d_U_work_142 : decode b_U_work 142 = .ok (.invokevirtual 49, 3) := by decide +kernel
theorem d_U_work_145 : decode b_U_work 145 = .ok (.aload_n 0, 1) := by decide +kernel
theorem d_U_work_146 : decode b_U_work 146 = .ok (.aload_n 1, 1) := by decide +kernel
theorem d_U_work_147 : decode b_U_work 147 = .ok (.getfield 88, 3) := by decide +kernel
theorem d_U_work_150 : decode b_U_work 150 = .ok (.iconst 1, 1) := by decide +kernel
theorem d_U_work_151 : decode b_U_work 151 = .ok (.aaload, 1) := by decide +kernel
theorem d_U_work_152 : decode b_U_work 152 = .ok (.iload_n 2, 1) := by decide +kernel
theorem d_U_work_153 : decode b_U_work 153 = .ok (.iload_n 3, 1) := by decide +kernel
theorem d_U_work_154 : decode b_U_work 154 = .ok (.invokevirtual 49, 3) := by decide +kernel
theorem d_U_work_157 : decode b_U_work 157 = .ok (.invokestatic 92, 3) := by decide +kernel
theorem d_U_work_160 : decode b_U_work 160 = .ok (.lreturn, 1) := by decide +kernel
theorem d_U_work_161 : decode b_U_work 161 = .ok (.aload_n 0, 1) := by decide +kernel
theorem d_U_work_162 : decode b_U_work 162 = .ok (.aload_n 1, 1) := by decide +kernel
theorem d_U_work_163 : decode b_U_work 163 = .ok (.getfield 88, 3) := by decide +kernel
theorem d_U_work_166 : decode b_U_work 166 = .ok (.iconst 0, 1) := by decide +kernel
theorem d_U_work_167 : decode b_U_work 167 = .ok (.aaload, 1) := by decide +kernel
theorem d_U_work_168 : decode b_U_work 168 = .ok (.iload_n 2, 1) := by decide +kernel
theorem d_U_work_169 : decode b_U_work 169 = .ok (.iload_n 3, 1) := by decide +kernel
theorem d_U_work_170 : decode b_U_work 170 = .ok (.invokevirtual 49, 3) := by decide +kernel
theorem d_U_work_173 : decode b_U_work 173 = .ok (.lconst 0, 1) := by decide +kernel
theorem d_U_work_174 : decode b_U_work 174 = .ok (.lcmp, 1) := by decide +kernel
theorem d_U_work_175 : decode b_U_work 175 = .ok (.ifCond .eq 7, 3) := by decide +kernel
theorem d_U_work_178 : decode b_U_work 178 = .ok (.iconst 1, 1) := by decide +kernel
theorem d_U_work_179 : decode b_U_work 179 = .ok (.goto 4, 3) := by decide +kernel
theorem d_U_work_182 : decode b_U_work 182 = .ok (.iconst 2, 1) := by decide +kernel
theorem d_U_work_183 : decode b_U_work 183 = .ok (.istore 4, 2) := by decide +kernel
theorem d_U_work_185 : decode b_U_work 185 = .ok (.aload_n 0, 1) := by decide +kernel
theorem d_U_work_186 : decode b_U_work 186 = .ok (.aload_n 1, 1) := by decide +kernel
theorem d_U_work_187 : decode b_U_work 187 = .ok (.getfield 88, 3) := by decide +kernel
theorem d_U_work_190 : decode b_U_work 190 = .ok (.iload 4, 2) := by decide +kernel
theorem d_U_work_192 : decode b_U_work 192 = .ok (.aaload, 1) := by decide +kernel
theorem d_U_work_193 : decode b_U_work 193 = .ok (.iload_n 2, 1) := by decide +kernel
theorem d_U_work_194 : decode b_U_work 194 = .ok (.iload_n 3, 1) := by decide +kernel
theorem d_U_work_195 : decode b_U_work 195 = .ok (.invokevirtual 49, 3) := by decide +kernel
theorem d_U_work_198 : decode b_U_work 198 = .ok (.lreturn, 1) := by decide +kernel
theorem d_U_work_199 : decode b_U_work 199 = .ok (.aload_n 0, 1) := by decide +kernel
theorem d_U_work_200 : decode b_U_work 200 = .ok (.getfield 27, 3) := by decide +kernel
theorem d_U_work_203 : decode b_U_work 203 = .ok (.iload_n 3, 1) := by decide +kernel
theorem d_U_work_204 : decode b_U_work 204 = .ok (.aaload, 1) := by decide +kernel
theorem d_U_work_205 : decode b_U_work 205 = .ok (.aload_n 1, 1) := by decide +kernel
theorem d_U_work_206 : decode b_U_work 206 = .ok (.getfield 81, 3) := by decide +kernel
theorem d_U_work_209 : decode b_U_work 209 = .ok (.aload_n 0, 1) := by decide +kernel
theorem d_U_work_210 : decode b_U_work 210 = .ok (.aload_n 1, 1) := by decide +kernel
theorem d_U_work_211 : decode b_U_work 211 = .ok (.getfield 88, 3) := by decide +kernel
theorem d_U_work_214 : decode b_U_work 214 = .ok (.iconst 0, 1) := by decide +kernel
theorem d_U_work_215 : decode b_U_work 215 = .ok (.aaload, 1) := by decide +kernel
theorem d_U_work_216 : decode b_U_work 216 = .ok (.iload_n 2, 1) := by decide +kernel
theorem d_U_work_217 : decode b_U_work 217 = .ok (.iload_n 3, 1) := by decide +kernel
theorem d_U_work_218 : decode b_U_work 218 = .ok (.invokevirtual 49, 3) := by decide +kernel
theorem d_U_work_221 : decode b_U_work 221 = .ok (.lastore, 1) := by decide +kernel
theorem d_U_work_222 : decode b_U_work 222 = .ok (.aload_n 0, 1) := by decide +kernel
theorem d_U_work_223 : decode b_U_work 223 = .ok (.aload_n 1, 1) := by decide +kernel
theorem d_U_work_224 : decode b_U_work 224 = .ok (.getfield 88, 3) := by decide +kernel
theorem d_U_work_227 : decode b_U_work 227 = .ok (.iconst 1, 1) := by decide +kernel
theorem d_U_work_228 : decode b_U_work 228 = .ok (.aaload, 1) := by decide +kernel
theorem d_U_work_229 : decode b_U_work 229 = .ok (.iload_n 2, 1) := by decide +kernel
theorem d_U_work_230 : decode b_U_work 230 = .ok (.iload_n 3, 1) := by decide +kernel
theorem d_U_work_231 : decode b_U_work 231 = .ok (.invokevirtual 49, 3) := by decide +kernel
theorem d_U_work_234 : decode b_U_work 234 = .ok (.lreturn, 1) := by decide +kernel
theorem d_U_work_235 : decode b_U_work 235 = .ok (.aload_n 0, 1) := by decide +kernel
theorem d_U_work_236 : decode b_U_work 236 = .ok (.getfield 12, 3) := by decide +kernel
theorem d_U_work_239 : decode b_U_work 239 = .ok (.aload_n 0, 1) := by decide +kernel
theorem d_U_work_240 : decode b_U_work 240 = .ok (.aload_n 1, 1) := by decide +kernel
theorem d_U_work_241 : decode b_U_work 241 = .ok (.getfield 88, 3) := by decide +kernel
theorem d_U_work_244 : decode b_U_work 244 = .ok (.iconst 0, 1) := by decide +kernel
theorem d_U_work_245 : decode b_U_work 245 = .ok (.aaload, 1) := by decide +kernel
theorem d_U_work_246 : decode b_U_work 246 = .ok (.iload_n 2, 1) := by decide +kernel
theorem d_U_work_247 : decode b_U_work 247 = .ok (.iload_n 3, 1) := by decide +kernel
theorem d_U_work_248 : decode b_U_work 248 = .ok (.invokevirtual 49, 3) := by decide +kernel
theorem d_U_work_251 : decode b_U_work 251 = .ok (.lconst 1, 1) := by decide +kernel
theorem d_U_work_252 : decode b_U_work 252 = .ok (.invokevirtual 96, 3) := by decide +kernel
theorem d_U_work_255 : decode b_U_work 255 = .ok (.i2l, 1) := by decide +kernel
theorem d_U_work_256 : decode b_U_work 256 = .ok (.lreturn, 1) := by decide +kernel
theorem d_U_work_257 : decode b_U_work 257 = .ok (.aload_n 0, 1) := by decide +kernel
theorem d_U_work_258 : decode b_U_work 258 = .ok (.getfield 12, 3) := by decide +kernel
theorem d_U_work_261 : decode b_U_work 261 = .ok (.aload_n 0, 1) := by decide +kernel
theorem d_U_work_262 : decode b_U_work 262 = .ok (.aload_n 1, 1) := by decide +kernel
theorem d_U_work_263 : decode b_U_work 263 = .ok (.getfield 88, 3) := by decide +kernel
theorem d_U_work_266 : decode b_U_work 266 = .ok (.iconst 0, 1) := by decide +kernel
theorem d_U_work_267 : decode b_U_work 267 = .ok (.aaload, 1) := by decide +kernel
theorem d_U_work_268 : decode b_U_work 268 = .ok (.iload_n 2, 1) := by decide +kernel
theorem d_U_work_269 : decode b_U_work 269 = .ok (.iload_n 3, 1) := by decide +kernel
theorem d_U_work_270 : decode b_U_work 270 = .ok (.invokevirtual 49, 3) := by decide +kernel
theorem d_U_work_273 : decode b_U_work 273 = .ok (.aload_n 0, 1) := by decide +kernel
theorem d_U_work_274 : decode b_U_work 274 = .ok (.aload_n 1, 1) := by decide +kernel
theorem d_U_work_275 : decode b_U_work 275 = .ok (.getfield 88, 3) := by decide +kernel
theorem d_U_work_278 : decode b_U_work 278 = .ok (.iconst 1, 1) := by decide +kernel
theorem d_U_work_279 : decode b_U_work 279 = .ok (.aaload, 1) := by decide +kernel
theorem d_U_work_280 : decode b_U_work 280 = .ok (.iload_n 2, 1) := by decide +kernel
theorem d_U_work_281 : decode b_U_work 281 = .ok (.iload_n 3, 1) := by decide +kernel
theorem d_U_work_282 : decode b_U_work 282 = .ok (.invokevirtual 49, 3) := by decide +kernel
theorem d_U_work_285 : decode b_U_work 285 = .ok (.invokevirtual 96, 3) := by decide +kernel
theorem d_U_work_288 : decode b_U_work 288 = .ok (.i2l, 1) := by decide +kernel
theorem d_U_work_289 : decode b_U_work 289 = .ok (.lreturn, 1) := by decide +kernel
theorem d_U_work_290 : decode b_U_work 290 = .ok (.aload_n 0, 1) := by decide +kernel
theorem d_U_work_291 : decode b_U_work 291 = .ok (.aload_n 1, 1) := by decide +kernel
theorem d_U_work_292 : decode b_U_work 292 = .ok (.iload_n 2, 1) := by decide +kernel
theorem d_U_work_293 : decode b_U_work 293 = .ok (.iload_n 3, 1) := by decide +kernel
theorem d_U_work_294 : decode b_U_work 294 = .ok (.invokevirtual 100, 3) := by decide +kernel
theorem d_U_work_297 : decode b_U_work 297 = .ok (.lreturn, 1) := by decide +kernel
theorem d_U_work_298 : decode b_U_work 298 = .ok (.aload_n 0, 1) := by decide +kernel
theorem d_U_work_299 : decode b_U_work 299 = .ok (.aload_n 1, 1) := by decide +kernel
theorem d_U_work_300 : decode b_U_work 300 = .ok (.iload_n 2, 1) := by decide +kernel
theorem d_U_work_301 : decode b_U_work 301 = .ok (.iload_n 3, 1) := by decide +kernel
theorem d_U_work_302 : decode b_U_work 302 = .ok (.invokevirtual 103, 3) := by decide +kernel
theorem d_U_work_305 : decode b_U_work 305 = .ok (.lreturn, 1) := by decide +kernel
theorem d_U_work_306 : decode b_U_work 306 = .ok (.aload_n 0, 1) := by decide +kernel
theorem d_U_work_307 : decode b_U_work 307 = .ok (.getfield 12, 3) := by decide +kernel
theorem d_U_work_310 : decode b_U_work 310 = .ok (.getfield 106, 3) := by decide +kernel
theorem d_U_work_313 : decode b_U_work 313 = .ok (.aload_n 0, 1) := by decide +kernel
theorem d_U_work_314 : decode b_U_work 314 = .ok (.aload_n 1, 1) := by decide +kernel
theorem d_U_work_315 : decode b_U_work 315 = .ok (.iload_n 3, 1) := by decide +kernel
theorem d_U_work_316 : decode b_U_work 316 = .ok (.invokevirtual 109, 3) := by decide +kernel
theorem d_U_work_319 : decode b_U_work 319 = .ok (.iaload, 1) := by decide +kernel
theorem d_U_work_320 : decode b_U_work 320 = .ok (.i2l, 1) := by decide +kernel
theorem d_U_work_321 : decode b_U_work 321 = .ok (.lreturn, 1) := by decide +kernel
theorem d_U_work_322 : decode b_U_work 322 = .ok (.aload_n 0, 1) := by decide +kernel
theorem d_U_work_323 : decode b_U_work 323 = .ok (.getfield 12, 3) := by decide +kernel
theorem d_U_work_326 : decode b_U_work 326 = .ok (.getfield 113, 3) := by decide +kernel
theorem d_U_work_329 : decode b_U_work 329 = .ok (.aload_n 0, 1) := by decide +kernel
theorem d_U_work_330 : decode b_U_work 330 = .ok (.aload_n 1, 1) := by decide +kernel
theorem d_U_work_331 : decode b_U_work 331 = .ok (.iload_n 3, 1) := by decide +kernel
theorem d_U_work_332 : decode b_U_work 332 = .ok (.invokevirtual 109, 3) := by decide +kernel
theorem d_U_work_335 : decode b_U_work 335 = .ok (.iaload, 1) := by decide +kernel
theorem d_U_work_336 : decode b_U_work 336 = .ok (.i2l, 1) := by decide +kernel
theorem d_U_work_337 : decode b_U_work 337 = .ok (.lreturn, 1) := by decide +kernel
theorem d_U_work_338 : decode b_U_work 338 = .ok (.aload_n 0, 1) := by decide +kernel
theorem d_U_work_339 : decode b_U_work 339 = .ok (.getfield 12, 3) := by decide +kernel
theorem d_U_work_342 : decode b_U_work 342 = .ok (.aload_n 0, 1) := by decide +kernel
theorem d_U_work_343 : decode b_U_work 343 = .ok (.aload_n 1, 1) := by decide +kernel
theorem d_U_work_344 : decode b_U_work 344 = .ok (.iload_n 3, 1) := by decide +kernel
theorem d_U_work_345 : decode b_U_work 345 = .ok (.invokevirtual 109, 3) := by decide +kernel
theorem d_U_work_348 : decode b_U_work 348 = .ok (.invokevirtual 116, 3) := by decide +kernel
theorem d_U_work_351 : decode b_U_work 351 = .ok (.i2l, 1) := by decide +kernel
theorem d_U_work_352 : decode b_U_work 352 = .ok (.lreturn, 1) := by decide +kernel
theorem d_U_work_353 : decode b_U_work 353 = .ok (.aload_n 0, 1) := by decide +kernel
theorem d_U_work_354 : decode b_U_work 354 = .ok (.getfield 12, 3) := by decide +kernel
theorem d_U_work_357 : decode b_U_work 357 = .ok (.aload_n 0, 1) := by decide +kernel
theorem d_U_work_358 : decode b_U_work 358 = .ok (.aload_n 1, 1) := by decide +kernel
theorem d_U_work_359 : decode b_U_work 359 = .ok (.iload_n 3, 1) := by decide +kernel
theorem d_U_work_360 : decode b_U_work 360 = .ok (.invokevirtual 109, 3) := by decide +kernel
theorem d_U_work_363 : decode b_U_work 363 = .ok (.invokevirtual 120, 3) := by decide +kernel
theorem d_U_work_366 : decode b_U_work 366 = .ok (.aload_n 0, 1) := by decide +kernel
theorem d_U_work_367 : decode b_U_work 367 = .ok (.aload_n 1, 1) := by decide +kernel
theorem d_U_work_368 : decode b_U_work 368 = .ok (.getfield 88, 3) := by decide +kernel
theorem d_U_work_371 : decode b_U_work 371 = .ok (.iconst 0, 1) := by decide +kernel
theorem d_U_work_372 : decode b_U_work 372 = .ok (.aaload, 1) := by decide +kernel
theorem d_U_work_373 : decode b_U_work 373 = .ok (.iload_n 2, 1) := by decide +kernel
theorem d_U_work_374 : decode b_U_work 374 = .ok (.iload_n 3, 1) := by decide +kernel
theorem d_U_work_375 : decode b_U_work 375 = .ok (.invokevirtual 49, 3) := by decide +kernel
theorem d_U_work_378 : decode b_U_work 378 = .ok (.lreturn, 1) := by decide +kernel
theorem d_U_work_379 : decode b_U_work 379 = .ok (.aload_n 0, 1) := by decide +kernel
theorem d_U_work_380 : decode b_U_work 380 = .ok (.aload_n 1, 1) := by decide +kernel
theorem d_U_work_381 : decode b_U_work 381 = .ok (.iload_n 2, 1) := by decide +kernel
theorem d_U_work_382 : decode b_U_work 382 = .ok (.iload_n 3, 1) := by decide +kernel
theorem d_U_work_383 : decode b_U_work 383 = .ok (.invokevirtual 124, 3) := by decide +kernel
theorem d_U_work_386 : decode b_U_work 386 = .ok (.lreturn, 1) := by decide +kernel
theorem sm_U_60 : Cond.fieldLink "SoleArrays$Runner" 60 "SoleArrays$1" "$SwitchMap$SoleArrays$Form" "[I" ∈ zTb := zt3 213 (by decide +kernel) rfl
theorem lo_U_71 : Cond.methodLink "SoleArrays$Runner" 71 ⟨"SoleArrays$Form", "ordinal", "()I"⟩ ∈ zTb := zt3 214 (by decide +kernel) rfl
theorem xArr_some {x : Int64} {f : Nat → xR} {res : xT × (Nat ⊕ Int64)} (h : xArr x f = some res) : x.toInt32 = nI (xIx x) ∧ xIx x < 8 ∧ f (xIx x) = some res := by
  unfold xArr at h
  by_cases q : x.toInt32 = nI (xIx x) ∧ xIx x < 8
  · rw [if_pos q] at h
    exact ⟨q.1, q.2, h⟩
  · rw [if_neg q] at h
    cases h
section UWK
variable {G : zG} {l : Launch} {c d n B N i fr : Nat} {σ : zS} {xr : Int64} {xf : xF} {P : Nat → Option uF} {E : Nat → eN} {s : xT} {res : xT × (Nat ⊕ Int64)} {mc ms : Nat}
theorem c_U_rd (hn : 85 ≤ n) (hn2 : n < 1000000) {a : Nat} (ha : a < 8) {x y : Int64} (hres : xRd a x y s = some res) (hm : (∃ q, res.2 = .inl q) → 1 ≤ mc ∧ 6 ≤ ms) : MetZ G l y_O_numberAt b_O_numberAt 6 (some .long) [] 7 mc ms [.ref 6, .int (nI a), .long x, .long y] n (uSt σ xr xf s) (uPost n σ xr xf res) := by
  unfold xRd at hres
  by_cases q : xHD s a x y = true
  · rw [if_pos q] at hres
    by_cases q2 : xKok s a x y = true
    · rw [if_pos q2] at hres
      cases hres
      have q3 := q2
      unfold xKok at q3
      rw [Bool.and_eq_true, decide_eq_true_iff, decide_eq_true_iff] at q3
      refine (c_O_numberAt2 hn hn2 ha x y (k := xK s a x y) (fun _ => q3) (fun w => absurd (xHD_iff.mp q) w)).mono (fun o n' σ' h => ?_)
      obtain ⟨-, h1, h2, h3⟩ := h.resolve_right (fun w => w.1 (xHD_iff.mp q))
      exact ⟨h1, h2, h3⟩
    · rw [if_neg q2] at hres
      cases hres
  · rw [if_neg q] at hres
    cases hres
    refine (c_O_numberAt2 hn hn2 ha x y (k := 0) (fun w => absurd (xHD_iff.mpr w) q) (fun _ => hm ⟨_, rfl⟩)).mono (fun o n' σ' h => ?_)
    obtain ⟨-, h1, h2, h3⟩ := h.resolve_left (fun w => q (xHD_iff.mpr w.1))
    exact ⟨h1, h2, h3⟩
theorem c_U_readNumber {e : eN} (UX : uHyp G l c d) (hU : uP n σ P B N E) (hi : i < N) (he : E i = e) (hcs : ∀ j, j < e.2.2.2.1 → eCs P E d (ePt e j)) (hfr : fr < 65) (hk : e.1 = 7) (hres : (xB (cvD P (cvC P c) E fr d (ePt e 0) s) fun s i => xB (if e.2.2.2.1 = 2 then cvD P (cvC P c) E fr d (ePt e 1) s else some (s, .inr 0)) fun s j => xArr (s.2.2 (20 + fr) (cIx (eVr e))) fun a => xRd a i j s) = some res) (hm : (∃ q, res.2 = .inl q) → 1 ≤ mc ∧ 6 ≤ ms) :
    MetZ G l y_U_readNumber b_U_readNumber 8 (some .long) [] (12 + 2 * d + 20 * c + 1) mc ms [.ref 5, .ref (B + 2 * i), .int (nI (8 - c)), .int (nI fr)] n (uSt σ xr xf s) (uPost n σ xr xf res) := by
  obtain ⟨⟨hn1, hn9, hP⟩, hB, hBN, hcell, hw⟩ := id hU
  have hwi := hw i hi
  rw [he] at hwi
  obtain ⟨hk14, hc4, ⟨v0, hv20, ev⟩, ⟨g, hg8, eg⟩, hpt, hct⟩ := hwi
  have hix : cIx (eVr e) = v0 := by rw [ev]; exact nI_clamp (by omega)
  have hce : σ (B + 2 * i) = eCell B i e := by rw [(hcell i hi).1, he]
  have hcl : ∀ s', uSt σ xr xf s' (B + 2 * i) = eCell B i e := fun s' => (xOv_at (by omega)).trans hce
  have hcp : ∀ s', uSt σ xr xf s' (B + 2 * i + 1) = eParts B e := fun s' => (xOv_at (by omega)).trans (by rw [(hcell i hi).2, he])
  have hcn : e.2.2.2.1 = 1 ∨ e.2.2.2.1 = 2 := hct.2.2.2.2.2.2.2.1 hk
  rw [hix] at hres
  refine MetZ.of (by decide) (Nat.le_of_ble_eq_true rfl) (fun K hK hR hpo hmc hms C => ?_)
  subst hK
  have hmc' : (kR K).cells ≤ kmc K := by rw [hR, hmc]; exact Nat.le_refl _
  have hms' : (kR K).slots ≤ kms K := by rw [hR, hms]; exact Nat.le_refl _
  have hm' : (∃ q, res.2 = .inl q) → 1 ≤ (kR K).cells ∧ 6 ≤ (kR K).slots := by rw [hR]; exact hm
  refine z_aload_n C 1 d_U_readNumber_0 rfl rfl ?_
  refine z_aload_n C 2 d_U_readNumber_1 rfl rfl ?_
  refine z_get C 5 f_U_88 d_U_readNumber_2 rfl (by omega) (hcl _) rfl ?_
  refine z_iconst C 6 d_U_readNumber_5 rfl 0 (by decide) ?_
  refine z_aald C 7 (t := 5) 0 (some (B + 2 * ePt e 0)) d_U_readNumber_6 rfl (by omega) (hcp _) rfl rfl rfl (by omega) (by decide) (by show (e.2.2.1 0).map _ = _; rw [(hpt 0 (by omega)).1]; rfl) ?_
  refine z_iload_n C 8 d_U_readNumber_7 rfl rfl ?_
  refine z_iload_n C 9 d_U_readNumber_8 rfl rfl ?_
  refine zu_sub C 12 hres (fun x0 hx0 mc ms hm => UX n σ xr xf P B N E (ePt e 0) fr _ x0 mc ms hU (hcs 0 (by omega)) (hpt 0 (by omega)).2 hfr hx0 hm) w_U_work ini_U d_U_readNumber_9 rfl (z_goV (As := [.ref (B + 2 * ePt e 0), .int (nI (8 - c)), .int (nI fr)]) C l_U_49 w_U_work d_U_readNumber_9 (by omega) rfl rfl rfl) (Nat.le_of_ble_eq_true rfl) (by rw [hR]; simp only [zRm]; omega) (by rw [hR]; simp only [zRm]; omega) hmc' hms' hpo hm' (fun s1 x1 hres => ?_)
  refine z_lstore C 14 d_U_readNumber_12 rfl (by decide) ?_
  refine z_aload_n C 15 d_U_readNumber_14 rfl rfl ?_
  refine z_get C 18 f_U_136 d_U_readNumber_15 rfl (by omega) (hcl _) rfl ?_
  refine z_iconst C 19 d_U_readNumber_18 rfl 2 (by decide) ?_
  by_cases qc : e.2.2.2.1 = 2
  · rw [if_pos qc] at hres
    refine z_icmp_ne C 22 37 d_U_readNumber_19 rfl (by decide) (fun h9 => absurd (show nI e.2.2.2.1 = 2 by rw [qc]; rfl) h9) (fun _ => ?_)
    refine z_aload_n C 23 d_U_readNumber_22 rfl rfl ?_
    refine z_aload_n C 24 d_U_readNumber_23 rfl rfl ?_
    refine z_get C 27 f_U_88 d_U_readNumber_24 rfl (by omega) (hcl _) rfl ?_
    refine z_iconst C 28 d_U_readNumber_27 rfl 1 (by decide) ?_
    refine z_aald C 29 (t := 5) 1 (some (B + 2 * ePt e 1)) d_U_readNumber_28 rfl (by omega) (hcp _) rfl rfl rfl (by omega) (by decide) (by show (e.2.2.1 1).map _ = _; rw [(hpt 1 (by omega)).1]; rfl) ?_
    refine z_iload_n C 30 d_U_readNumber_29 rfl rfl ?_
    refine z_iload_n C 31 d_U_readNumber_30 rfl rfl ?_
    refine zu_sub C 34 hres (fun x0 hx0 mc ms hm => UX n σ xr xf P B N E (ePt e 1) fr _ x0 mc ms hU (hcs 1 (by omega)) (hpt 1 (by omega)).2 hfr hx0 hm) w_U_work ini_U d_U_readNumber_31 rfl (z_goV (As := [.ref (B + 2 * ePt e 1), .int (nI (8 - c)), .int (nI fr)]) C l_U_49 w_U_work d_U_readNumber_31 (by omega) rfl rfl rfl) (Nat.le_of_ble_eq_true rfl) (by rw [hR]; simp only [zRm]; omega) (by rw [hR]; simp only [zRm]; omega) hmc' hms' hpo hm' (fun s2 x2 hres => ?_)
    refine z_goto C 38 d_U_readNumber_34 (by decide) ?_
    refine z_lstore C 40 d_U_readNumber_38 rfl (by decide) ?_
    refine z_aload_n C 41 d_U_readNumber_40 rfl rfl ?_
    refine z_get C 44 f_U_12 d_U_readNumber_41 rfl (by omega) rfl rfl ?_
    refine z_aload_n C 45 d_U_readNumber_44 rfl rfl ?_
    refine z_aload_n C 46 d_U_readNumber_45 rfl rfl ?_
    refine z_iload_n C 47 d_U_readNumber_46 rfl rfl ?_
    refine z_call C 50 (c_U_arrayOf (xs := s2.1) (xa := s2.2.1) (xl := s2.2.2) (xr := xr) (xf := xf) (σ := σ) (by omega) (e := B + 2 * i) (x := s2.2.2 (20 + fr) v0) (by omega) (by omega) hce (by show some (Value.int (eVr e)) = _; rw [ev]) hv20 hfr rfl) w_U_arrayOf ini_U d_U_readNumber_47 rfl (z_goV (As := [.ref (B + 2 * i), .int (nI fr)]) C l_U_109 w_U_arrayOf d_U_readNumber_47 (by omega) rfl rfl rfl) (Nat.le_of_ble_eq_true rfl) (by rw [hR]; simp only [zRm]; omega) (by rw [hR]; simp only [zRm]; omega) (by rw [hR]; simp only [zRm]; omega) (by rw [hR]; simp only [zRm]; omega) (fun v n' σ' hv => ?_) (fun x n' σ' hv => ?_)
    rotate_left
    · cases hv.1
    obtain ⟨e0, e1, rfl⟩ := hv
    cases e0
    obtain rfl : n = n' := e1.symm
    obtain ⟨ha0, ha, hres⟩ := xArr_some hres
    rw [ha0]
    show Z G K n (uSt σ xr xf s2) _ _ _ _ (.int (nI _) :: _)
    obtain ⟨a, hae⟩ : ∃ a, xIx (s2.2.2 (20 + fr) v0) = a := ⟨_, rfl⟩
    rw [hae] at ha hres ⊢
    have hres := (xB_P _).trans hres
    refine z_lload C 52 d_U_readNumber_50 rfl rfl ?_
    refine z_lload C 54 d_U_readNumber_52 rfl rfl ?_
    refine zu_sub C 57 hres (fun x0 hx0 mc ms hm => c_U_rd (by omega) (by omega) ha hx0 hm) w_O_numberAt ini_O d_U_readNumber_54 rfl (z_goV (As := [.int (nI a), .long x1, .long x2]) C l_U_139 w_O_numberAt d_U_readNumber_54 (by omega) rfl rfl rfl) (Nat.le_of_ble_eq_true rfl) (by rw [hR]; simp only [zRm]; omega) (by rw [hR]; simp only [zRm]; omega) hmc' hms' hpo hm' (fun s3 x3 hres => ?_)
    cases hres
    exact z_lret C rfl d_U_readNumber_57 (by rw [hpo]; exact ⟨rfl, rfl, rfl⟩) (by rw [hmc]; omega) (by rw [hms]; omega)
  · rw [if_neg qc] at hres
    have hres : (xArr (s1.2.2 (20 + fr) v0) fun a => xRd a x1 0 s1) = some res := hres
    refine z_icmp_ne C 22 37 d_U_readNumber_19 rfl (by decide) (fun _ => ?_) (fun h9 => absurd (show nI e.2.2.2.1 = nI 2 from h9) (fun w9 => qc (nI_inj (by omega) (by omega) w9)))
    refine z_lconst C 38 d_U_readNumber_37 rfl 0 (by decide) ?_
    refine z_lstore C 40 d_U_readNumber_38 rfl (by decide) ?_
    refine z_aload_n C 41 d_U_readNumber_40 rfl rfl ?_
    refine z_get C 44 f_U_12 d_U_readNumber_41 rfl (by omega) rfl rfl ?_
    refine z_aload_n C 45 d_U_readNumber_44 rfl rfl ?_
    refine z_aload_n C 46 d_U_readNumber_45 rfl rfl ?_
    refine z_iload_n C 47 d_U_readNumber_46 rfl rfl ?_
    refine z_call C 50 (c_U_arrayOf (xs := s1.1) (xa := s1.2.1) (xl := s1.2.2) (xr := xr) (xf := xf) (σ := σ) (by omega) (e := B + 2 * i) (x := s1.2.2 (20 + fr) v0) (by omega) (by omega) hce (by show some (Value.int (eVr e)) = _; rw [ev]) hv20 hfr rfl) w_U_arrayOf ini_U d_U_readNumber_47 rfl (z_goV (As := [.ref (B + 2 * i), .int (nI fr)]) C l_U_109 w_U_arrayOf d_U_readNumber_47 (by omega) rfl rfl rfl) (Nat.le_of_ble_eq_true rfl) (by rw [hR]; simp only [zRm]; omega) (by rw [hR]; simp only [zRm]; omega) (by rw [hR]; simp only [zRm]; omega) (by rw [hR]; simp only [zRm]; omega) (fun v n' σ' hv => ?_) (fun x n' σ' hv => ?_)
    rotate_left
    · cases hv.1
    obtain ⟨e0, e1, rfl⟩ := hv
    cases e0
    obtain rfl : n = n' := e1.symm
    obtain ⟨ha0, ha, hres⟩ := xArr_some hres
    rw [ha0]
    show Z G K n (uSt σ xr xf s1) _ _ _ _ (.int (nI _) :: _)
    obtain ⟨a, hae⟩ : ∃ a, xIx (s1.2.2 (20 + fr) v0) = a := ⟨_, rfl⟩
    rw [hae] at ha hres ⊢
    have hres := (xB_P _).trans hres
    refine z_lload C 52 d_U_readNumber_50 rfl rfl ?_
    refine z_lload C 54 d_U_readNumber_52 rfl rfl ?_
    refine zu_sub C 57 hres (fun x0 hx0 mc ms hm => c_U_rd (by omega) (by omega) ha hx0 hm) w_O_numberAt ini_O d_U_readNumber_54 rfl (z_goV (As := [.int (nI a), .long x1, .long 0]) C l_U_139 w_O_numberAt d_U_readNumber_54 (by omega) rfl rfl rfl) (Nat.le_of_ble_eq_true rfl) (by rw [hR]; simp only [zRm]; omega) (by rw [hR]; simp only [zRm]; omega) hmc' hms' hpo hm' (fun s3 x3 hres => ?_)
    cases hres
    exact z_lret C rfl d_U_readNumber_57 (by rw [hpo]; exact ⟨rfl, rfl, rfl⟩) (by rw [hmc]; omega) (by rw [hms]; omega)
theorem c_U_update {e : eN} (UX : uHyp G l c d) (hU : uP n σ P B N E) (hi : i < N) (he : E i = e) (hcs : ∀ j, j < e.2.2.2.1 → eCs P E d (ePt e j)) (hfr : fr < 65) (hk : e.1 = 8) (hres : (xB (cvD P (cvC P c) E fr d (ePt e 0) s) fun s i => xB (if e.2.2.2.1 = 3 then cvD P (cvC P c) E fr d (ePt e 1) s else some (s, .inr 0)) fun s j => xB (cvD P (cvC P c) E fr d (ePt e (e.2.2.2.1 - 1)) s) fun s x => xArr (s.2.2 (20 + fr) (cIx (eVr e))) fun a => xPu a i j x s) = some res) (hm : (∃ q, res.2 = .inl q) → 1 ≤ mc ∧ 6 ≤ ms) :
    MetZ G l y_U_update b_U_update 11 (some .long) [] (12 + 2 * d + 20 * c + 1) mc ms [.ref 5, .ref (B + 2 * i), .int (nI (8 - c)), .int (nI fr)] n (uSt σ xr xf s) (uPost n σ xr xf res) := by
  obtain ⟨⟨hn1, hn9, hP⟩, hB, hBN, hcell, hw⟩ := id hU
  have hwi := hw i hi
  rw [he] at hwi
  obtain ⟨hk14, hc4, ⟨v0, hv20, ev⟩, ⟨g, hg8, eg⟩, hpt, hct⟩ := hwi
  have hix : cIx (eVr e) = v0 := by rw [ev]; exact nI_clamp (by omega)
  have hce : σ (B + 2 * i) = eCell B i e := by rw [(hcell i hi).1, he]
  have hcl : ∀ s', uSt σ xr xf s' (B + 2 * i) = eCell B i e := fun s' => (xOv_at (by omega)).trans hce
  have hcp : ∀ s', uSt σ xr xf s' (B + 2 * i + 1) = eParts B e := fun s' => (xOv_at (by omega)).trans (by rw [(hcell i hi).2, he])
  have hcn : e.2.2.2.1 = 2 ∨ e.2.2.2.1 = 3 := hct.2.2.2.2.2.2.2.2.1 hk
  rw [hix] at hres
  refine MetZ.of (by decide) (Nat.le_of_ble_eq_true rfl) (fun K hK hR hpo hmc hms C => ?_)
  subst hK
  have hmc' : (kR K).cells ≤ kmc K := by rw [hR, hmc]; exact Nat.le_refl _
  have hms' : (kR K).slots ≤ kms K := by rw [hR, hms]; exact Nat.le_refl _
  have hm' : (∃ q, res.2 = .inl q) → 1 ≤ (kR K).cells ∧ 6 ≤ (kR K).slots := by rw [hR]; exact hm
  refine z_aload_n C 1 d_U_update_0 rfl rfl ?_
  refine z_aload_n C 2 d_U_update_1 rfl rfl ?_
  refine z_get C 5 f_U_88 d_U_update_2 rfl (by omega) (hcl _) rfl ?_
  refine z_iconst C 6 d_U_update_5 rfl 0 (by decide) ?_
  refine z_aald C 7 (t := 5) 0 (some (B + 2 * ePt e 0)) d_U_update_6 rfl (by omega) (hcp _) rfl rfl rfl (by omega) (by decide) (by show (e.2.2.1 0).map _ = _; rw [(hpt 0 (by omega)).1]; rfl) ?_
  refine z_iload_n C 8 d_U_update_7 rfl rfl ?_
  refine z_iload_n C 9 d_U_update_8 rfl rfl ?_
  refine zu_sub C 12 hres (fun x0 hx0 mc ms hm => UX n σ xr xf P B N E (ePt e 0) fr _ x0 mc ms hU (hcs 0 (by omega)) (hpt 0 (by omega)).2 hfr hx0 hm) w_U_work ini_U d_U_update_9 rfl (z_goV (As := [.ref (B + 2 * ePt e 0), .int (nI (8 - c)), .int (nI fr)]) C l_U_49 w_U_work d_U_update_9 (by omega) rfl rfl rfl) (Nat.le_of_ble_eq_true rfl) (by rw [hR]; simp only [zRm]; omega) (by rw [hR]; simp only [zRm]; omega) hmc' hms' hpo hm' (fun s1 x1 hres => ?_)
  refine z_lstore C 14 d_U_update_12 rfl (by decide) ?_
  refine z_aload_n C 15 d_U_update_14 rfl rfl ?_
  refine z_get C 18 f_U_136 d_U_update_15 rfl (by omega) (hcl _) rfl ?_
  refine z_iconst C 19 d_U_update_18 rfl 3 (by decide) ?_
  by_cases qc : e.2.2.2.1 = 3
  · rw [if_pos qc] at hres
    refine z_icmp_ne C 22 37 d_U_update_19 rfl (by decide) (fun h9 => absurd (show nI e.2.2.2.1 = 3 by rw [qc]; rfl) h9) (fun _ => ?_)
    refine z_aload_n C 23 d_U_update_22 rfl rfl ?_
    refine z_aload_n C 24 d_U_update_23 rfl rfl ?_
    refine z_get C 27 f_U_88 d_U_update_24 rfl (by omega) (hcl _) rfl ?_
    refine z_iconst C 28 d_U_update_27 rfl 1 (by decide) ?_
    refine z_aald C 29 (t := 5) 1 (some (B + 2 * ePt e 1)) d_U_update_28 rfl (by omega) (hcp _) rfl rfl rfl (by omega) (by decide) (by show (e.2.2.1 1).map _ = _; rw [(hpt 1 (by omega)).1]; rfl) ?_
    refine z_iload_n C 30 d_U_update_29 rfl rfl ?_
    refine z_iload_n C 31 d_U_update_30 rfl rfl ?_
    refine zu_sub C 34 hres (fun x0 hx0 mc ms hm => UX n σ xr xf P B N E (ePt e 1) fr _ x0 mc ms hU (hcs 1 (by omega)) (hpt 1 (by omega)).2 hfr hx0 hm) w_U_work ini_U d_U_update_31 rfl (z_goV (As := [.ref (B + 2 * ePt e 1), .int (nI (8 - c)), .int (nI fr)]) C l_U_49 w_U_work d_U_update_31 (by omega) rfl rfl rfl) (Nat.le_of_ble_eq_true rfl) (by rw [hR]; simp only [zRm]; omega) (by rw [hR]; simp only [zRm]; omega) hmc' hms' hpo hm' (fun s2 x2 hres => ?_)
    simp only [qc] at hres
    have hres : (xB (cvD P (cvC P c) E fr d (ePt e 2) s2) fun s x => xArr (s.2.2 (20 + fr) v0) fun a => xPu a x1 x2 x s) = some res := hres
    refine z_goto C 38 d_U_update_34 (by decide) ?_
    refine z_lstore C 40 d_U_update_38 rfl (by decide) ?_
    refine z_aload_n C 41 d_U_update_40 rfl rfl ?_
    refine z_aload_n C 42 d_U_update_41 rfl rfl ?_
    refine z_get C 45 f_U_88 d_U_update_42 rfl (by omega) (hcl _) rfl ?_
    refine z_aload_n C 46 d_U_update_45 rfl rfl ?_
    refine z_get C 49 f_U_136 d_U_update_46 rfl (by omega) (hcl _) rfl ?_
    refine z_iconst C 50 d_U_update_49 rfl 1 (by decide) ?_
    refine z_isub C 51 d_U_update_50 rfl ?_
    refine z_aald C 52 (t := 5) 2 (some (B + 2 * ePt e 2)) d_U_update_51 rfl (by omega) (hcp _) rfl rfl ((by rw [qc]; rfl)) (by omega) (by decide) (by show (e.2.2.1 2).map _ = _; rw [(hpt 2 (by omega)).1]; rfl) ?_
    refine z_iload_n C 53 d_U_update_52 rfl rfl ?_
    refine z_iload_n C 54 d_U_update_53 rfl rfl ?_
    refine zu_sub C 57 hres (fun x0 hx0 mc ms hm => UX n σ xr xf P B N E (ePt e 2) fr _ x0 mc ms hU (hcs 2 (by omega)) (hpt 2 (by omega)).2 hfr hx0 hm) w_U_work ini_U d_U_update_54 rfl (z_goV (As := [.ref (B + 2 * ePt e 2), .int (nI (8 - c)), .int (nI fr)]) C l_U_49 w_U_work d_U_update_54 (by omega) rfl rfl rfl) (Nat.le_of_ble_eq_true rfl) (by rw [hR]; simp only [zRm]; omega) (by rw [hR]; simp only [zRm]; omega) hmc' hms' hpo hm' (fun s3 x3 hres => ?_)
    refine z_lstore C 59 d_U_update_57 rfl (by decide) ?_
    refine z_aload_n C 60 d_U_update_59 rfl rfl ?_
    refine z_aload_n C 61 d_U_update_60 rfl rfl ?_
    refine z_iload_n C 62 d_U_update_61 rfl rfl ?_
    refine z_call C 65 (c_U_arrayOf (xs := s3.1) (xa := s3.2.1) (xl := s3.2.2) (xr := xr) (xf := xf) (σ := σ) (by omega) (e := B + 2 * i) (x := s3.2.2 (20 + fr) v0) (by omega) (by omega) hce (by show some (Value.int (eVr e)) = _; rw [ev]) hv20 hfr rfl) w_U_arrayOf ini_U d_U_update_62 rfl (z_goV (As := [.ref (B + 2 * i), .int (nI fr)]) C l_U_109 w_U_arrayOf d_U_update_62 (by omega) rfl rfl rfl) (Nat.le_of_ble_eq_true rfl) (by rw [hR]; simp only [zRm]; omega) (by rw [hR]; simp only [zRm]; omega) (by rw [hR]; simp only [zRm]; omega) (by rw [hR]; simp only [zRm]; omega) (fun v n' σ' hv => ?_) (fun x n' σ' hv => ?_)
    rotate_left
    · cases hv.1
    obtain ⟨e0, e1, rfl⟩ := hv
    cases e0
    obtain rfl : n = n' := e1.symm
    obtain ⟨ha0, ha, hres⟩ := xArr_some hres
    rw [ha0]
    show Z G K n (uSt σ xr xf s3) _ _ _ _ (.int (nI _) :: _)
    obtain ⟨a, hae⟩ : ∃ a, xIx (s3.2.2 (20 + fr) v0) = a := ⟨_, rfl⟩
    rw [hae] at ha hres ⊢
    refine z_istore C 67 d_U_update_65 rfl (by decide) ?_
    refine z_aload_n C 68 d_U_update_67 rfl rfl ?_
    refine z_get C 71 f_U_12 d_U_update_68 rfl (by omega) rfl rfl ?_
    refine z_iload C 73 d_U_update_71 rfl rfl ?_
    refine z_lload C 75 d_U_update_73 rfl rfl ?_
    refine z_lload C 77 d_U_update_75 rfl rfl ?_
    refine z_lload C 79 d_U_update_77 rfl rfl ?_
    unfold xPu at hres
    by_cases q : xHD s3 a x1 x2 = true
    · rw [if_pos q] at hres
      by_cases q2 : xKok s3 a x1 x2 = true
      · rw [if_pos q2] at hres
        cases hres
        have q3 := q2
        unfold xKok at q3
        rw [Bool.and_eq_true, decide_eq_true_iff, decide_eq_true_iff] at q3
        refine z_call C 82 (c_O_put (by omega) (by omega) ha x1 x2 x3 (k := xK s3 a x1 x2) (fun _ => q3) (mc := 0) (ms := 0) (fun w => absurd (xHD_iff.mp q) w)) w_O_put ini_O d_U_update_79 rfl (z_goV (As := [.int (nI a), .long x1, .long x2, .long x3]) C l_U_143 w_O_put d_U_update_79 (by omega) rfl rfl rfl) (Nat.le_of_ble_eq_true rfl) (by rw [hR]; simp only [zRm]; omega) (by rw [hR]; simp only [zRm]; omega) (by rw [hR]; simp only [zRm]; omega) (by rw [hR]; simp only [zRm]; omega) (fun v n' σ' hv => ?_) (fun x n' σ' hv => ?_)
        rotate_left
        · rcases hv with ⟨-, hv, -⟩ | ⟨w, -⟩
          · cases hv
          · exact absurd (xHD_iff.mp q) w
        obtain ⟨-, e0, e1, rfl⟩ := hv.resolve_right (fun w => w.1 (xHD_iff.mp q))
        cases e0
        obtain rfl : n = n' := e1.symm
        refine z_aload_n C 83 d_U_update_82 rfl rfl ?_
        refine z_dup C 84 d_U_update_83 rfl rfl ?_
        refine z_get C 87 f_U_22 d_U_update_84 rfl (by omega) rfl rfl ?_
        refine z_iconst C 88 d_U_update_87 rfl 1 (by decide) ?_
        refine z_iadd C 89 d_U_update_88 rfl ?_
        refine zx_put5 C 92 6 p_U_22 d_U_update_89 rfl (by omega) (by decide) (by decide) (by decide) rfl ?_
        refine z_iload C 94 d_U_update_92 rfl rfl ?_
        refine z_i2l C 95 d_U_update_94 rfl ?_
        exact z_lret C rfl d_U_update_95 (by rw [hpo]; exact ⟨rfl, rfl, rfl⟩) (by rw [hmc]; omega) (by rw [hms]; omega)
      · rw [if_neg q2] at hres
        cases hres
    · rw [if_neg q] at hres
      cases hres
      have hb := hm ⟨_, rfl⟩
      refine z_call C 82 (c_O_put (by omega) (by omega) ha x1 x2 x3 (k := 0) (fun w => absurd (xHD_iff.mpr w) q) (mc := 1) (ms := 6) (fun _ => ⟨by omega, by omega⟩)) w_O_put ini_O d_U_update_79 rfl (z_goV (As := [.int (nI a), .long x1, .long x2, .long x3]) C l_U_143 w_O_put d_U_update_79 (by omega) rfl rfl rfl) (Nat.le_of_ble_eq_true rfl) (by rw [hR]; simp only [zRm]; omega) (by rw [hR]; simp only [zRm]; omega) (by rw [hR]; simp only [zRm]; omega) (by rw [hR]; simp only [zRm]; omega) (fun v n' σ' hv => ?_) (fun x n' σ' hv => ?_)
      · rcases hv with ⟨w, -⟩ | ⟨-, hv, -⟩
        · exact absurd (xHD_iff.mpr w) q
        · cases hv
      · obtain ⟨-, e0, rfl, rfl⟩ := hv.resolve_left (fun w => q (xHD_iff.mpr w.1))
        cases e0
        exact zx_out C (fun h hh => nomatch hh) (by rw [hpo]; exact ⟨rfl, rfl, rfl⟩) (by rw [hmc]; omega) (by rw [hms]; omega)
  · rw [if_neg qc] at hres
    have qc : e.2.2.2.1 = 2 := by omega
    simp only [qc] at hres
    have hres : (xB (cvD P (cvC P c) E fr d (ePt e 1) s1) fun s x => xArr (s.2.2 (20 + fr) v0) fun a => xPu a x1 0 x s) = some res := hres
    refine z_icmp_ne C 22 37 d_U_update_19 rfl (by decide) (fun _ => ?_) (fun h9 => absurd (show nI e.2.2.2.1 = nI 3 from h9) (fun w9 => absurd (nI_inj (by omega) (by omega) w9) (by omega)))
    refine z_lconst C 38 d_U_update_37 rfl 0 (by decide) ?_
    refine z_lstore C 40 d_U_update_38 rfl (by decide) ?_
    refine z_aload_n C 41 d_U_update_40 rfl rfl ?_
    refine z_aload_n C 42 d_U_update_41 rfl rfl ?_
    refine z_get C 45 f_U_88 d_U_update_42 rfl (by omega) (hcl _) rfl ?_
    refine z_aload_n C 46 d_U_update_45 rfl rfl ?_
    refine z_get C 49 f_U_136 d_U_update_46 rfl (by omega) (hcl _) rfl ?_
    refine z_iconst C 50 d_U_update_49 rfl 1 (by decide) ?_
    refine z_isub C 51 d_U_update_50 rfl ?_
    refine z_aald C 52 (t := 5) 1 (some (B + 2 * ePt e 1)) d_U_update_51 rfl (by omega) (hcp _) rfl rfl ((by rw [qc]; rfl)) (by omega) (by decide) (by show (e.2.2.1 1).map _ = _; rw [(hpt 1 (by omega)).1]; rfl) ?_
    refine z_iload_n C 53 d_U_update_52 rfl rfl ?_
    refine z_iload_n C 54 d_U_update_53 rfl rfl ?_
    refine zu_sub C 57 hres (fun x0 hx0 mc ms hm => UX n σ xr xf P B N E (ePt e 1) fr _ x0 mc ms hU (hcs 1 (by omega)) (hpt 1 (by omega)).2 hfr hx0 hm) w_U_work ini_U d_U_update_54 rfl (z_goV (As := [.ref (B + 2 * ePt e 1), .int (nI (8 - c)), .int (nI fr)]) C l_U_49 w_U_work d_U_update_54 (by omega) rfl rfl rfl) (Nat.le_of_ble_eq_true rfl) (by rw [hR]; simp only [zRm]; omega) (by rw [hR]; simp only [zRm]; omega) hmc' hms' hpo hm' (fun s3 x3 hres => ?_)
    refine z_lstore C 59 d_U_update_57 rfl (by decide) ?_
    refine z_aload_n C 60 d_U_update_59 rfl rfl ?_
    refine z_aload_n C 61 d_U_update_60 rfl rfl ?_
    refine z_iload_n C 62 d_U_update_61 rfl rfl ?_
    refine z_call C 65 (c_U_arrayOf (xs := s3.1) (xa := s3.2.1) (xl := s3.2.2) (xr := xr) (xf := xf) (σ := σ) (by omega) (e := B + 2 * i) (x := s3.2.2 (20 + fr) v0) (by omega) (by omega) hce (by show some (Value.int (eVr e)) = _; rw [ev]) hv20 hfr rfl) w_U_arrayOf ini_U d_U_update_62 rfl (z_goV (As := [.ref (B + 2 * i), .int (nI fr)]) C l_U_109 w_U_arrayOf d_U_update_62 (by omega) rfl rfl rfl) (Nat.le_of_ble_eq_true rfl) (by rw [hR]; simp only [zRm]; omega) (by rw [hR]; simp only [zRm]; omega) (by rw [hR]; simp only [zRm]; omega) (by rw [hR]; simp only [zRm]; omega) (fun v n' σ' hv => ?_) (fun x n' σ' hv => ?_)
    rotate_left
    · cases hv.1
    obtain ⟨e0, e1, rfl⟩ := hv
    cases e0
    obtain rfl : n = n' := e1.symm
    obtain ⟨ha0, ha, hres⟩ := xArr_some hres
    rw [ha0]
    show Z G K n (uSt σ xr xf s3) _ _ _ _ (.int (nI _) :: _)
    obtain ⟨a, hae⟩ : ∃ a, xIx (s3.2.2 (20 + fr) v0) = a := ⟨_, rfl⟩
    rw [hae] at ha hres ⊢
    refine z_istore C 67 d_U_update_65 rfl (by decide) ?_
    refine z_aload_n C 68 d_U_update_67 rfl rfl ?_
    refine z_get C 71 f_U_12 d_U_update_68 rfl (by omega) rfl rfl ?_
    refine z_iload C 73 d_U_update_71 rfl rfl ?_
    refine z_lload C 75 d_U_update_73 rfl rfl ?_
    refine z_lload C 77 d_U_update_75 rfl rfl ?_
    refine z_lload C 79 d_U_update_77 rfl rfl ?_
    unfold xPu at hres
    by_cases q : xHD s3 a x1 0 = true
    · rw [if_pos q] at hres
      by_cases q2 : xKok s3 a x1 0 = true
      · rw [if_pos q2] at hres
        cases hres
        have q3 := q2
        unfold xKok at q3
        rw [Bool.and_eq_true, decide_eq_true_iff, decide_eq_true_iff] at q3
        refine z_call C 82 (c_O_put (by omega) (by omega) ha x1 0 x3 (k := xK s3 a x1 0) (fun _ => q3) (mc := 0) (ms := 0) (fun w => absurd (xHD_iff.mp q) w)) w_O_put ini_O d_U_update_79 rfl (z_goV (As := [.int (nI a), .long x1, .long 0, .long x3]) C l_U_143 w_O_put d_U_update_79 (by omega) rfl rfl rfl) (Nat.le_of_ble_eq_true rfl) (by rw [hR]; simp only [zRm]; omega) (by rw [hR]; simp only [zRm]; omega) (by rw [hR]; simp only [zRm]; omega) (by rw [hR]; simp only [zRm]; omega) (fun v n' σ' hv => ?_) (fun x n' σ' hv => ?_)
        rotate_left
        · rcases hv with ⟨-, hv, -⟩ | ⟨w, -⟩
          · cases hv
          · exact absurd (xHD_iff.mp q) w
        obtain ⟨-, e0, e1, rfl⟩ := hv.resolve_right (fun w => w.1 (xHD_iff.mp q))
        cases e0
        obtain rfl : n = n' := e1.symm
        refine z_aload_n C 83 d_U_update_82 rfl rfl ?_
        refine z_dup C 84 d_U_update_83 rfl rfl ?_
        refine z_get C 87 f_U_22 d_U_update_84 rfl (by omega) rfl rfl ?_
        refine z_iconst C 88 d_U_update_87 rfl 1 (by decide) ?_
        refine z_iadd C 89 d_U_update_88 rfl ?_
        refine zx_put5 C 92 6 p_U_22 d_U_update_89 rfl (by omega) (by decide) (by decide) (by decide) rfl ?_
        refine z_iload C 94 d_U_update_92 rfl rfl ?_
        refine z_i2l C 95 d_U_update_94 rfl ?_
        exact z_lret C rfl d_U_update_95 (by rw [hpo]; exact ⟨rfl, rfl, rfl⟩) (by rw [hmc]; omega) (by rw [hms]; omega)
      · rw [if_neg q2] at hres
        cases hres
    · rw [if_neg q] at hres
      cases hres
      have hb := hm ⟨_, rfl⟩
      refine z_call C 82 (c_O_put (by omega) (by omega) ha x1 0 x3 (k := 0) (fun w => absurd (xHD_iff.mpr w) q) (mc := 1) (ms := 6) (fun _ => ⟨by omega, by omega⟩)) w_O_put ini_O d_U_update_79 rfl (z_goV (As := [.int (nI a), .long x1, .long 0, .long x3]) C l_U_143 w_O_put d_U_update_79 (by omega) rfl rfl rfl) (Nat.le_of_ble_eq_true rfl) (by rw [hR]; simp only [zRm]; omega) (by rw [hR]; simp only [zRm]; omega) (by rw [hR]; simp only [zRm]; omega) (by rw [hR]; simp only [zRm]; omega) (fun v n' σ' hv => ?_) (fun x n' σ' hv => ?_)
      · rcases hv with ⟨w, -⟩ | ⟨-, hv, -⟩
        · exact absurd (xHD_iff.mpr w) q
        · cases hv
      · obtain ⟨-, e0, rfl, rfl⟩ := hv.resolve_left (fun w => q (xHD_iff.mpr w.1))
        cases e0
        exact zx_out C (fun h hh => nomatch hh) (by rw [hpo]; exact ⟨rfl, rfl, rfl⟩) (by rw [hmc]; omega) (by rw [hms]; omega)
end UWK
