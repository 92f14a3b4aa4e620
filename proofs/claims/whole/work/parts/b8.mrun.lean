theorem d_M_start_0 : decode b_M_start 0 = .ok (.aload_n 0, 1) := by decide +kernel
theorem d_M_start_1 : decode b_M_start 1 = .ok (.getfield 219, 3) := by decide +kernel
theorem d_M_start_4 : decode b_M_start 4 = .ok (.sipush 400, 3) := by decide +kernel
theorem d_M_start_7 : decode b_M_start 7 = .ok (.if_icmp .ne 9, 3) := by decide +kernel
theorem d_M_start_10 : decode b_M_start 10 = .ok (.aload_n 0, 1) := by decide +kernel
theorem d_M_start_11 : decode b_M_start 11 = .ok (.iconst 5, 1) := by decide +kernel
theorem d_M_start_12 : decode b_M_start 12 = .ok (.putfield 222, 3) := by decide +kernel
theorem d_M_start_15 : decode b_M_start 15 = .ok (.return_, 1) := by decide +kernel
theorem d_M_start_16 : decode b_M_start 16 = .ok (.aload_n 0, 1) := by decide +kernel
theorem d_M_start_17 : decode b_M_start 17 = .ok (.dup, 1) := by decide +kernel
theorem d_M_start_18 : decode b_M_start 18 = .ok (.getfield 219, 3) := by decide +kernel
theorem d_M_start_21 : decode b_M_start 21 = .ok (.iconst 1, 1) := by decide +kernel
theorem d_M_start_22 : decode b_M_start 22 = .ok (.iadd, 1) := by decide +kernel
theorem d_M_start_23 : decode b_M_start 23 = .ok (.putfield 219, 3) := by decide +kernel
theorem d_M_start_26 : decode b_M_start 26 = .ok (.aload_n 0, 1) := by decide +kernel
theorem d_M_start_27 : decode b_M_start 27 = .ok (.iload_n 1, 1) := by decide +kernel
theorem d_M_start_28 : decode b_M_start 28 = .ok (.invokevirtual 144, 3) := by decide +kernel
theorem d_M_start_31 : decode b_M_start 31 = .ok (.return_, 1) := by decide +kernel
theorem d_M_give_0 : decode b_M_give 0 = .ok (.aload_n 0, 1) := by decide +kernel
theorem d_M_give_1 : decode b_M_give 1 = .ok (.getfield 86, 3) := by decide +kernel
theorem d_M_give_4 : decode b_M_give 4 = .ok (.aload_n 0, 1) := by decide +kernel
theorem d_M_give_5 : decode b_M_give 5 = .ok (.getfield 225, 3) := by decide +kernel
theorem d_M_give_8 : decode b_M_give 8 = .ok (.lload_n 1, 1) := by decide +kernel
theorem d_M_give_9 : decode b_M_give 9 = .ok (.lastore, 1) := by decide +kernel
theorem d_M_give_10 : decode b_M_give 10 = .ok (.aload_n 0, 1) := by decide +kernel
theorem d_M_give_11 : decode b_M_give 11 = .ok (.getfield 89, 3) := by decide +kernel
theorem d_M_give_14 : decode b_M_give 14 = .ok (.aload_n 0, 1) := by decide +kernel
theorem d_M_give_15 : decode b_M_give 15 = .ok (.getfield 225, 3) := by decide +kernel
theorem d_M_give_18 : decode b_M_give 18 = .ok (.iload_n 3, 1) := by decide +kernel
theorem d_M_give_19 : decode b_M_give 19 = .ok (.iastore, 1) := by decide +kernel
theorem d_M_give_20 : decode b_M_give 20 = .ok (.aload_n 0, 1) := by decide +kernel
theorem d_M_give_21 : decode b_M_give 21 = .ok (.dup, 1) := by decide +kernel
theorem d_M_give_22 : decode b_M_give 22 = .ok (.getfield 225, 3) := by decide +kernel
theorem d_M_give_25 : decode b_M_give 25 = .ok (.iconst 1, 1) := by decide +kernel
theorem d_M_give_26 : decode b_M_give 26 = .ok (.iadd, 1) := by decide +kernel
theorem d_M_give_27 : decode b_M_give 27 = .ok (.putfield 225, 3) := by decide +kernel
theorem d_M_give_30 : decode b_M_give 30 = .ok (.aload_n 0, 1) := by decide +kernel
theorem d_M_give_31 : decode b_M_give 31 = .ok (.dup, 1) := by decide +kernel
theorem d_M_give_32 : decode b_M_give 32 = .ok (.getfield 129, 3) := by decide +kernel
theorem d_M_give_35 : decode b_M_give 35 = .ok (.iconst 1, 1) := by decide +kernel
theorem d_M_give_36 : decode b_M_give 36 = .ok (.isub, 1) := by decide +kernel
theorem d_M_give_37 : decode b_M_give 37 = .ok (.putfield 129, 3) := by decide +kernel
theorem d_M_give_40 : decode b_M_give 40 = .ok (.return_, 1) := by decide +kernel
theorem d_M_make_0 : decode b_M_make 0 = .ok (.iconst 0, 1) := by decide +kernel
theorem d_M_make_1 : decode b_M_make 1 = .ok (.istore 6, 2) := by decide +kernel
theorem d_M_make_3 : decode b_M_make 3 = .ok (.iload 6, 2) := by decide +kernel
theorem d_M_make_5 : decode b_M_make 5 = .ok (.lload_n 1, 1) := by decide +kernel
theorem d_M_make_6 : decode b_M_make 6 = .ok (.lload_n 3, 1) := by decide +kernel
theorem d_M_make_7 : decode b_M_make 7 = .ok (.lmul, 1) := by decide +kernel
theorem d_M_make_8 : decode b_M_make 8 = .ok (.l2i, 1) := by decide +kernel
theorem d_M_make_9 : decode b_M_make 9 = .ok (.if_icmp .ge 46, 3) := by decide +kernel
theorem d_M_make_12 : decode b_M_make 12 = .ok (.aload_n 0, 1) := by decide +kernel
theorem d_M_make_13 : decode b_M_make 13 = .ok (.getfield 70, 3) := by decide +kernel
theorem d_M_make_16 : decode b_M_make 16 = .ok (.bipush 40, 2) := by decide +kernel
theorem d_M_make_18 : decode b_M_make 18 = .ok (.aload_n 0, 1) := by decide +kernel
theorem d_M_make_19 : decode b_M_make 19 = .ok (.getfield 228, 3) := by decide +kernel
theorem d_M_make_22 : decode b_M_make 22 = .ok (.imul, 1) := by decide +kernel
theorem d_M_make_23 : decode b_M_make 23 = .ok (.iload 6, 2) := by decide +kernel
theorem d_M_make_25 : decode b_M_make 25 = .ok (.iadd, 1) := by decide +kernel
theorem d_M_make_26 : decode b_M_make 26 = .ok (.iload 5, 2) := by decide +kernel
theorem d_M_make_28 : decode b_M_make 28 = .ok (.ifCond .ge 7, 3) := by decide +kernel
theorem d_M_make_31 : decode b_M_make 31 = .ok (.lconst 0, 1) := by decide +kernel
theorem d_M_make_32 : decode b_M_make 32 = .ok (.goto 16, 3) := by decide +kernel
theorem d_M_make_35 : decode b_M_make 35 = .ok (.aload_n 0, 1) := by decide +kernel
theorem d_M_make_36 : decode b_M_make 36 = .ok (.getfield 70, 3) := by decide +kernel
theorem d_M_make_39 : decode b_M_make 39 = .ok (.bipush 40, 2) := by decide +kernel
theorem d_M_make_41 : decode b_M_make 41 = .ok (.iload 5, 2) := by decide +kernel
theorem d_M_make_43 : decode b_M_make 43 = .ok (.imul, 1) := by decide +kernel
theorem d_M_make_44 : decode b_M_make 44 = .ok (.iload 6, 2) := by decide +kernel
theorem d_M_make_46 : decode b_M_make 46 = .ok (.iadd, 1) := by decide +kernel
theorem d_M_make_47 : decode b_M_make 47 = .ok (.laload, 1) := by decide +kernel
theorem d_M_make_48 : decode b_M_make 48 = .ok (.lastore, 1) := by decide +kernel
theorem d_M_make_49 : decode b_M_make 49 = .ok (.iinc 6 1, 3) := by decide +kernel
theorem d_M_make_52 : decode b_M_make 52 = .ok (.goto (-49), 3) := by decide +kernel
theorem d_M_make_55 : decode b_M_make 55 = .ok (.aload_n 0, 1) := by decide +kernel
theorem d_M_make_56 : decode b_M_make 56 = .ok (.getfield 74, 3) := by decide +kernel
theorem d_M_make_59 : decode b_M_make 59 = .ok (.aload_n 0, 1) := by decide +kernel
theorem d_M_make_60 : decode b_M_make 60 = .ok (.getfield 228, 3) := by decide +kernel
theorem d_M_make_63 : decode b_M_make 63 = .ok (.lload_n 1, 1) := by decide +kernel
theorem d_M_make_64 : decode b_M_make 64 = .ok (.l2i, 1) := by decide +kernel
theorem d_M_make_65 : decode b_M_make 65 = .ok (.iastore, 1) := by decide +kernel
theorem d_M_make_66 : decode b_M_make 66 = .ok (.aload_n 0, 1) := by decide +kernel
theorem d_M_make_67 : decode b_M_make 67 = .ok (.getfield 77, 3) := by decide +kernel
theorem d_M_make_70 : decode b_M_make 70 = .ok (.aload_n 0, 1) := by decide +kernel
theorem d_M_make_71 : decode b_M_make 71 = .ok (.getfield 228, 3) := by decide +kernel
theorem d_M_make_74 : decode b_M_make 74 = .ok (.lload_n 3, 1) := by decide +kernel
theorem d_M_make_75 : decode b_M_make 75 = .ok (.l2i, 1) := by decide +kernel
theorem d_M_make_76 : decode b_M_make 76 = .ok (.iastore, 1) := by decide +kernel
theorem d_M_make_77 : decode b_M_make 77 = .ok (.aload_n 0, 1) := by decide +kernel
theorem d_M_make_78 : decode b_M_make 78 = .ok (.dup, 1) := by decide +kernel
theorem d_M_make_79 : decode b_M_make 79 = .ok (.getfield 228, 3) := by decide +kernel
theorem d_M_make_82 : decode b_M_make 82 = .ok (.iconst 1, 1) := by decide +kernel
theorem d_M_make_83 : decode b_M_make 83 = .ok (.iadd, 1) := by decide +kernel
theorem d_M_make_84 : decode b_M_make 84 = .ok (.putfield 228, 3) := by decide +kernel
theorem d_M_make_87 : decode b_M_make 87 = .ok (.aload_n 0, 1) := by decide +kernel
theorem d_M_make_88 : decode b_M_make 88 = .ok (.getfield 228, 3) := by decide +kernel
theorem d_M_make_91 : decode b_M_make 91 = .ok (.iconst 1, 1) := by decide +kernel
theorem d_M_make_92 : decode b_M_make 92 = .ok (.isub, 1) := by decide +kernel
theorem d_M_make_93 : decode b_M_make 93 = .ok (.ireturn, 1) := by decide +kernel
theorem d_M_makeOne_0 : decode b_M_makeOne 0 = .ok (.lload_n 1, 1) := by decide +kernel
theorem d_M_makeOne_1 : decode b_M_makeOne 1 = .ok (.ldc2_w 231, 3) := by decide +kernel
theorem d_M_makeOne_4 : decode b_M_makeOne 4 = .ok (.lcmp, 1) := by decide +kernel
theorem d_M_makeOne_5 : decode b_M_makeOne 5 = .ok (.ifCond .gt 30, 3) := by decide +kernel
theorem d_M_makeOne_8 : decode b_M_makeOne 8 = .ok (.lload_n 3, 1) := by decide +kernel
theorem d_M_makeOne_9 : decode b_M_makeOne 9 = .ok (.ldc2_w 231, 3) := by decide +kernel
theorem d_M_makeOne_12 : decode b_M_makeOne 12 = .ok (.lcmp, 1) := by decide +kernel
theorem d_M_makeOne_13 : decode b_M_makeOne 13 = .ok (.ifCond .gt 22, 3) := by decide +kernel
theorem d_M_makeOne_16 : decode b_M_makeOne 16 = .ok (.lload_n 1, 1) := by decide +kernel
theorem d_M_makeOne_17 : decode b_M_makeOne 17 = .ok (.lload_n 3, 1) := by decide +kernel
theorem d_M_makeOne_18 : decode b_M_makeOne 18 = .ok (.lmul, 1) := by decide +kernel
theorem d_M_makeOne_19 : decode b_M_makeOne 19 = .ok (.ldc2_w 231, 3) := by decide +kernel
theorem d_M_makeOne_22 : decode b_M_makeOne 22 = .ok (.lcmp, 1) := by decide +kernel
theorem d_M_makeOne_23 : decode b_M_makeOne 23 = .ok (.ifCond .gt 12, 3) := by decide +kernel
theorem d_M_makeOne_26 : decode b_M_makeOne 26 = .ok (.aload_n 0, 1) := by decide +kernel
theorem d_M_makeOne_27 : decode b_M_makeOne 27 = .ok (.getfield 233, 3) := by decide +kernel
theorem d_M_makeOne_30 : decode b_M_makeOne 30 = .ok (.bipush 8, 2) := by decide +kernel
theorem d_M_makeOne_32 : decode b_M_makeOne 32 = .ok (.if_icmp .ne 9, 3) := by decide +kernel
theorem d_M_makeOne_35 : decode b_M_makeOne 35 = .ok (.aload_n 0, 1) := by decide +kernel
theorem d_M_makeOne_36 : decode b_M_makeOne 36 = .ok (.iconst 5, 1) := by decide +kernel
theorem d_M_makeOne_37 : decode b_M_makeOne 37 = .ok (.putfield 222, 3) := by decide +kernel
theorem d_M_makeOne_40 : decode b_M_makeOne 40 = .ok (.return_, 1) := by decide +kernel
theorem d_M_makeOne_41 : decode b_M_makeOne 41 = .ok (.aload_n 0, 1) := by decide +kernel
theorem d_M_makeOne_42 : decode b_M_makeOne 42 = .ok (.dup, 1) := by decide +kernel
theorem d_M_makeOne_43 : decode b_M_makeOne 43 = .ok (.getfield 233, 3) := by decide +kernel
theorem d_M_makeOne_46 : decode b_M_makeOne 46 = .ok (.iconst 1, 1) := by decide +kernel
theorem d_M_makeOne_47 : decode b_M_makeOne 47 = .ok (.iadd, 1) := by decide +kernel
theorem d_M_makeOne_48 : decode b_M_makeOne 48 = .ok (.putfield 233, 3) := by decide +kernel
theorem d_M_makeOne_51 : decode b_M_makeOne 51 = .ok (.aload_n 0, 1) := by decide +kernel
theorem d_M_makeOne_52 : decode b_M_makeOne 52 = .ok (.dup, 1) := by decide +kernel
theorem d_M_makeOne_53 : decode b_M_makeOne 53 = .ok (.getfield 236, 3) := by decide +kernel
theorem d_M_makeOne_56 : decode b_M_makeOne 56 = .ok (.iconst 1, 1) := by decide +kernel
theorem d_M_makeOne_57 : decode b_M_makeOne 57 = .ok (.iadd, 1) := by decide +kernel
theorem d_M_makeOne_58 : decode b_M_makeOne 58 = .ok (.putfield 236, 3) := by decide +kernel
theorem d_M_makeOne_61 : decode b_M_makeOne 61 = .ok (.aload_n 0, 1) := by decide +kernel
theorem d_M_makeOne_62 : decode b_M_makeOne 62 = .ok (.aload_n 0, 1) := by decide +kernel
theorem d_M_makeOne_63 : decode b_M_makeOne 63 = .ok (.getfield 233, 3) := by decide +kernel
theorem d_M_makeOne_66 : decode b_M_makeOne 66 = .ok (.aload_n 0, 1) := by decide +kernel
theorem d_M_makeOne_67 : decode b_M_makeOne 67 = .ok (.getfield 239, 3) := by decide +kernel
theorem d_M_makeOne_70 : decode b_M_makeOne 70 = .ok (.if_icmp .le 10, 3) := by decide +kernel
theorem d_M_makeOne_73 : decode b_M_makeOne 73 = .ok (.aload_n 0, 1) := by decide +kernel
theorem d_M_makeOne_74 : decode b_M_makeOne 74 = .ok (.getfield 233, 3) := by decide +kernel
theorem d_M_makeOne_77 : decode b_M_makeOne 77 = .ok (.goto 7, 3) := by decide +kernel
theorem d_M_makeOne_80 : decode b_M_makeOne 80 = .ok (.aload_n 0, 1) := by decide +kernel
theorem d_M_makeOne_81 : decode b_M_makeOne 81 = .ok (.getfield 239, 3) := by decide +kernel
theorem d_M_makeOne_84 : decode b_M_makeOne 84 = .ok (.putfield 239, 3) := by decide +kernel
theorem d_M_makeOne_87 : decode b_M_makeOne 87 = .ok (.aload_n 0, 1) := by decide +kernel
theorem d_M_makeOne_88 : decode b_M_makeOne 88 = .ok (.lconst 0, 1) := by decide +kernel
theorem d_M_makeOne_89 : decode b_M_makeOne 89 = .ok (.aload_n 0, 1) := by decide +kernel
theorem d_M_makeOne_90 : decode b_M_makeOne 90 = .ok (.lload_n 1, 1) := by decide +kernel
theorem d_M_makeOne_91 : decode b_M_makeOne 91 = .ok (.lload_n 3, 1) := by decide +kernel
theorem d_M_makeOne_92 : decode b_M_makeOne 92 = .ok (.iload 5, 2) := by decide +kernel
theorem d_M_makeOne_94 : decode b_M_makeOne 94 = .ok (.invokevirtual 242, 3) := by decide +kernel
theorem d_M_makeOne_97 : decode b_M_makeOne 97 = .ok (.invokevirtual 246, 3) := by decide +kernel
theorem d_M_makeOne_100 : decode b_M_makeOne 100 = .ok (.return_, 1) := by decide +kernel
theorem d_M_join_0 : decode b_M_join 0 = .ok (.aload_n 0, 1) := by decide +kernel
theorem d_M_join_1 : decode b_M_join 1 = .ok (.dup, 1) := by decide +kernel
theorem d_M_join_2 : decode b_M_join 2 = .ok (.getfield 225, 3) := by decide +kernel
theorem d_M_join_5 : decode b_M_join 5 = .ok (.iconst 2, 1) := by decide +kernel
theorem d_M_join_6 : decode b_M_join 6 = .ok (.isub, 1) := by decide +kernel
theorem d_M_join_7 : decode b_M_join 7 = .ok (.putfield 225, 3) := by decide +kernel
theorem d_M_join_10 : decode b_M_join 10 = .ok (.aload_n 0, 1) := by decide +kernel
theorem d_M_join_11 : decode b_M_join 11 = .ok (.getfield 86, 3) := by decide +kernel
theorem d_M_join_14 : decode b_M_join 14 = .ok (.aload_n 0, 1) := by decide +kernel
theorem d_M_join_15 : decode b_M_join 15 = .ok (.getfield 225, 3) := by decide +kernel
theorem d_M_join_18 : decode b_M_join 18 = .ok (.laload, 1) := by decide +kernel
theorem d_M_join_19 : decode b_M_join 19 = .ok (.lstore_n 2, 1) := by decide +kernel
theorem d_M_join_20 : decode b_M_join 20 = .ok (.aload_n 0, 1) := by decide +kernel
theorem d_M_join_21 : decode b_M_join 21 = .ok (.getfield 86, 3) := by decide +kernel
theorem d_M_join_24 : decode b_M_join 24 = .ok (.aload_n 0, 1) := by decide +kernel
theorem d_M_join_25 : decode b_M_join 25 = .ok (.getfield 225, 3) := by decide +kernel
theorem d_M_join_28 : decode b_M_join 28 = .ok (.iconst 1, 1) := by decide +kernel
theorem d_M_join_29 : decode b_M_join 29 = .ok (.iadd, 1) := by decide +kernel
theorem d_M_join_30 : decode b_M_join 30 = .ok (.laload, 1) := by decide +kernel
theorem d_M_join_31 : decode b_M_join 31 = .ok (.lstore 4, 2) := by decide +kernel
theorem d_M_join_33 : decode b_M_join 33 = .ok (.aload_n 0, 1) := by decide +kernel
theorem d_M_join_34 : decode b_M_join 34 = .ok (.getfield 21, 3) := by decide +kernel
theorem d_M_join_37 : decode b_M_join 37 = .ok (.iload_n 1, 1) := by decide +kernel
theorem d_M_join_38 : decode b_M_join 38 = .ok (.iaload, 1) := by decide +kernel
theorem d_M_join_39 : decode b_M_join 39 = .ok (.bipush 47, 2) := by decide +kernel
theorem d_M_join_41 : decode b_M_join 41 = .ok (.if_icmp .ne 16, 3) := by decide +kernel
theorem d_M_join_44 : decode b_M_join 44 = .ok (.lload 4, 2) := by decide +kernel
theorem d_M_join_46 : decode b_M_join 46 = .ok (.lconst 0, 1) := by decide +kernel
theorem d_M_join_47 : decode b_M_join 47 = .ok (.lcmp, 1) := by decide +kernel
theorem d_M_join_48 : decode b_M_join 48 = .ok (.ifCond .ne 9, 3) := by decide +kernel
theorem d_M_join_51 : decode b_M_join 51 = .ok (.aload_n 0, 1) := by decide +kernel
theorem d_M_join_52 : decode b_M_join 52 = .ok (.iconst 4, 1) := by decide +kernel
theorem d_M_join_53 : decode b_M_join 53 = .ok (.putfield 222, 3) := by decide +kernel
theorem d_M_join_56 : decode b_M_join 56 = .ok (.return_, 1) := by decide +kernel
theorem d_M_join_57 : decode b_M_join 57 = .ok (.aload_n 0, 1) := by decide +kernel
theorem d_M_join_58 : decode b_M_join 58 = .ok (.getfield 21, 3) := by decide +kernel
theorem d_M_join_61 : decode b_M_join 61 = .ok (.iload_n 1, 1) := by decide +kernel
theorem d_M_join_62 : decode b_M_join 62 = .ok (.iaload, 1) := by decide +kernel
theorem d_M_join_63 : decode b_M_join 63 = .ok (.lookupswitch 117 #[(42, 73), (43, 49), (45, 61), (47, 85), (60, 97)], 49) := by decide +kernel
theorem d_M_join_112 : decode b_M_join 112 = .ok (.aload_n 0, 1) := by decide +kernel
theorem d_M_join_113 : decode b_M_join 113 = .ok (.lload_n 2, 1) := by decide +kernel
theorem d_M_join_114 : decode b_M_join 114 = .ok (.lload 4, 2) := by decide +kernel
theorem d_M_join_116 : decode b_M_join 116 = .ok (.ladd, 1) := by decide +kernel
theorem d_M_join_117 : decode b_M_join 117 = .ok (.iconst (-1), 1) := by decide +kernel
theorem d_M_join_118 : decode b_M_join 118 = .ok (.invokevirtual 246, 3) := by decide +kernel
theorem d_M_join_121 : decode b_M_join 121 = .ok (.goto 76, 3) := by decide +kernel
theorem d_M_join_124 : decode b_M_join 124 = .ok (.aload_n 0, 1) := by decide +kernel
theorem d_M_join_125 : decode b_M_join 125 = .ok (.lload_n 2, 1) := by decide +kernel
theorem d_M_join_126 : decode b_M_join 126 = .ok (.lload 4, 2) := by decide +kernel
theorem d_M_join_128 : decode b_M_join 128 = .ok (.lsub, 1) := by decide +kernel
theorem d_M_join_129 : decode b_M_join 129 = .ok (.iconst (-1), 1) := by decide +kernel
theorem d_M_join_130 : decode b_M_join 130 = .ok (.invokevirtual 246, 3) := by decide +kernel
theorem d_M_join_133 : decode b_M_join 133 = .ok (.goto 64, 3) := by decide +kernel
theorem d_M_join_136 : decode b_M_join 136 = .ok (.aload_n 0, 1) := by decide +kernel
theorem d_M_join_137 : decode b_M_join 137 = .ok (.lload_n 2, 1) := by decide +kernel
theorem d_M_join_138 : decode b_M_join 138 = .ok (.lload 4, 2) := by decide +kernel
theorem d_M_join_140 : decode b_M_join 140 = .ok (.lmul, 1) := by decide +kernel
theorem d_M_join_141 : decode b_M_join 141 = .ok (.iconst (-1), 1) := by decide +kernel
theorem d_M_join_142 : decode b_M_join 142 = .ok (.invokevirtual 246, 3) := by decide +kernel
theorem d_M_join_145 : decode b_M_join 145 = .ok (.goto 52, 3) := by decide +kernel
theorem d_M_join_148 : decode b_M_join 148 = .ok (.aload_n 0, 1) := by decide +kernel
theorem d_M_join_149 : decode b_M_join 149 = .ok (.lload_n 2, 1) := by decide +kernel
theorem d_M_join_150 : decode b_M_join 150 = .ok (.lload 4, 2) := by decide +kernel
theorem d_M_join_152 : decode b_M_join 152 = .ok (.ldiv, 1) := by decide +kernel
theorem d_M_join_153 : decode b_M_join 153 = .ok (.iconst (-1), 1) := by decide +kernel
theorem d_M_join_154 : decode b_M_join 154 = .ok (.invokevirtual 246, 3) := by decide +kernel
theorem d_M_join_157 : decode b_M_join 157 = .ok (.goto 40, 3) := by decide +kernel
theorem d_M_join_160 : decode b_M_join 160 = .ok (.aload_n 0, 1) := by decide +kernel
theorem d_M_join_161 : decode b_M_join 161 = .ok (.lload_n 2, 1) := by decide +kernel
theorem d_M_join_162 : decode b_M_join 162 = .ok (.lload 4, 2) := by decide +kernel
theorem d_M_join_164 : decode b_M_join 164 = .ok (.lcmp, 1) := by decide +kernel
theorem d_M_join_165 : decode b_M_join 165 = .ok (.ifCond .ge 7, 3) := by decide +kernel
theorem d_M_join_168 : decode b_M_join 168 = .ok (.lconst 1, 1) := by decide +kernel
theorem d_M_join_169 : decode b_M_join 169 = .ok (.goto 4, 3) := by decide +kernel
theorem d_M_join_172 : decode b_M_join 172 = .ok (.lconst 0, 1) := by decide +kernel
theorem d_M_join_173 : decode b_M_join 173 = .ok (.iconst (-1), 1) := by decide +kernel
theorem d_M_join_174 : decode b_M_join 174 = .ok (.invokevirtual 246, 3) := by decide +kernel
theorem d_M_join_177 : decode b_M_join 177 = .ok (.goto 20, 3) := by decide +kernel
theorem d_M_join_180 : decode b_M_join 180 = .ok (.aload_n 0, 1) := by decide +kernel
theorem d_M_join_181 : decode b_M_join 181 = .ok (.lload_n 2, 1) := by decide +kernel
theorem d_M_join_182 : decode b_M_join 182 = .ok (.lload 4, 2) := by decide +kernel
theorem d_M_join_184 : decode b_M_join 184 = .ok (.lcmp, 1) := by decide +kernel
theorem d_M_join_185 : decode b_M_join 185 = .ok (.ifCond .ne 7, 3) := by decide +kernel
theorem d_M_join_188 : decode b_M_join 188 = .ok (.lconst 1, 1) := by decide +kernel
theorem d_M_join_189 : decode b_M_join 189 = .ok (.goto 4, 3) := by decide +kernel
theorem d_M_join_192 : decode b_M_join 192 = .ok (.lconst 0, 1) := by decide +kernel
theorem d_M_join_193 : decode b_M_join 193 = .ok (.iconst (-1), 1) := by decide +kernel
theorem d_M_join_194 : decode b_M_join 194 = .ok (.invokevirtual 246, 3) := by decide +kernel
theorem d_M_join_197 : decode b_M_join 197 = .ok (.return_, 1) := by decide +kernel
theorem d_M_cellOf_0 : decode b_M_cellOf 0 = .ok (.aload_n 0, 1) := by decide +kernel
theorem d_M_cellOf_1 : decode b_M_cellOf 1 = .ok (.getfield 17, 3) := by decide +kernel
theorem d_M_cellOf_4 : decode b_M_cellOf 4 = .ok (.iload_n 1, 1) := by decide +kernel
theorem d_M_cellOf_5 : decode b_M_cellOf 5 = .ok (.iaload, 1) := by decide +kernel
theorem d_M_cellOf_6 : decode b_M_cellOf 6 = .ok (.bipush 8, 2) := by decide +kernel
theorem d_M_cellOf_8 : decode b_M_cellOf 8 = .ok (.if_icmp .ne 7, 3) := by decide +kernel
theorem d_M_cellOf_11 : decode b_M_cellOf 11 = .ok (.iconst 1, 1) := by decide +kernel
theorem d_M_cellOf_12 : decode b_M_cellOf 12 = .ok (.goto 4, 3) := by decide +kernel
theorem d_M_cellOf_15 : decode b_M_cellOf 15 = .ok (.iconst 0, 1) := by decide +kernel
theorem d_M_cellOf_16 : decode b_M_cellOf 16 = .ok (.istore_n 2, 1) := by decide +kernel
theorem d_M_cellOf_17 : decode b_M_cellOf 17 = .ok (.aload_n 0, 1) := by decide +kernel
theorem d_M_cellOf_18 : decode b_M_cellOf 18 = .ok (.dup, 1) := by decide +kernel
theorem d_M_cellOf_19 : decode b_M_cellOf 19 = .ok (.getfield 225, 3) := by decide +kernel
theorem d_M_cellOf_22 : decode b_M_cellOf 22 = .ok (.aload_n 0, 1) := by decide +kernel
theorem d_M_cellOf_23 : decode b_M_cellOf 23 = .ok (.getfield 27, 3) := by decide +kernel
theorem d_M_cellOf_26 : decode b_M_cellOf 26 = .ok (.iload_n 1, 1) := by decide +kernel
theorem d_M_cellOf_27 : decode b_M_cellOf 27 = .ok (.iaload, 1) := by decide +kernel
theorem d_M_cellOf_28 : decode b_M_cellOf 28 = .ok (.isub, 1) := by decide +kernel
theorem d_M_cellOf_29 : decode b_M_cellOf 29 = .ok (.putfield 225, 3) := by decide +kernel
theorem d_M_cellOf_32 : decode b_M_cellOf 32 = .ok (.aload_n 0, 1) := by decide +kernel
theorem d_M_cellOf_33 : decode b_M_cellOf 33 = .ok (.getfield 83, 3) := by decide +kernel
theorem d_M_cellOf_36 : decode b_M_cellOf 36 = .ok (.bipush 20, 2) := by decide +kernel
theorem d_M_cellOf_38 : decode b_M_cellOf 38 = .ok (.aload_n 0, 1) := by decide +kernel
theorem d_M_cellOf_39 : decode b_M_cellOf 39 = .ok (.getfield 250, 3) := by decide +kernel
theorem d_M_cellOf_42 : decode b_M_cellOf 42 = .ok (.imul, 1) := by decide +kernel
theorem d_M_cellOf_43 : decode b_M_cellOf 43 = .ok (.aload_n 0, 1) := by decide +kernel
theorem d_M_cellOf_44 : decode b_M_cellOf 44 = .ok (.getfield 21, 3) := by decide +kernel
theorem d_M_cellOf_47 : decode b_M_cellOf 47 = .ok (.iload_n 1, 1) := by decide +kernel
theorem d_M_cellOf_48 : decode b_M_cellOf 48 = .ok (.iaload, 1) := by decide +kernel
theorem d_M_cellOf_49 : decode b_M_cellOf 49 = .ok (.iadd, 1) := by decide +kernel
theorem d_M_cellOf_50 : decode b_M_cellOf 50 = .ok (.iaload, 1) := by decide +kernel
theorem d_M_cellOf_51 : decode b_M_cellOf 51 = .ok (.istore_n 3, 1) := by decide +kernel
theorem d_M_cellOf_52 : decode b_M_cellOf 52 = .ok (.aload_n 0, 1) := by decide +kernel
theorem d_M_cellOf_53 : decode b_M_cellOf 53 = .ok (.getfield 86, 3) := by decide +kernel
theorem d_M_cellOf_56 : decode b_M_cellOf 56 = .ok (.aload_n 0, 1) := by decide +kernel
theorem d_M_cellOf_57 : decode b_M_cellOf 57 = .ok (.getfield 225, 3) := by decide +kernel
theorem d_M_cellOf_60 : decode b_M_cellOf 60 = .ok (.laload, 1) := by decide +kernel
theorem d_M_cellOf_61 : decode b_M_cellOf 61 = .ok (.lstore 4, 2) := by decide +kernel
theorem d_M_cellOf_63 : decode b_M_cellOf 63 = .ok (.aload_n 0, 1) := by decide +kernel
theorem d_M_cellOf_64 : decode b_M_cellOf 64 = .ok (.getfield 27, 3) := by decide +kernel
theorem d_M_cellOf_67 : decode b_M_cellOf 67 = .ok (.iload_n 1, 1) := by decide +kernel
theorem d_M_cellOf_68 : decode b_M_cellOf 68 = .ok (.iaload, 1) := by decide +kernel
theorem d_M_cellOf_69 : decode b_M_cellOf 69 = .ok (.iload_n 2, 1) := by decide +kernel
theorem d_M_cellOf_70 : decode b_M_cellOf 70 = .ok (.ifCond .eq 7, 3) := by decide +kernel
theorem d_M_cellOf_73 : decode b_M_cellOf 73 = .ok (.iconst 3, 1) := by decide +kernel
theorem d_M_cellOf_74 : decode b_M_cellOf 74 = .ok (.goto 4, 3) := by decide +kernel
theorem d_M_cellOf_77 : decode b_M_cellOf 77 = .ok (.iconst 2, 1) := by decide +kernel
theorem d_M_cellOf_78 : decode b_M_cellOf 78 = .ok (.if_icmp .ne 7, 3) := by decide +kernel
theorem d_M_cellOf_81 : decode b_M_cellOf 81 = .ok (.iconst 1, 1) := by decide +kernel
theorem d_M_cellOf_82 : decode b_M_cellOf 82 = .ok (.goto 4, 3) := by decide +kernel
theorem d_M_cellOf_85 : decode b_M_cellOf 85 = .ok (.iconst 0, 1) := by decide +kernel
theorem d_M_cellOf_86 : decode b_M_cellOf 86 = .ok (.istore 6, 2) := by decide +kernel
theorem d_M_cellOf_88 : decode b_M_cellOf 88 = .ok (.iload 6, 2) := by decide +kernel
theorem d_M_cellOf_90 : decode b_M_cellOf 90 = .ok (.ifCond .eq 17, 3) := by decide +kernel
theorem d_M_cellOf_93 : decode b_M_cellOf 93 = .ok (.aload_n 0, 1) := by decide +kernel
theorem d_M_cellOf_94 : decode b_M_cellOf 94 = .ok (.getfield 86, 3) := by decide +kernel
theorem d_M_cellOf_97 : decode b_M_cellOf 97 = .ok (.aload_n 0, 1) := by decide +kernel
theorem d_M_cellOf_98 : decode b_M_cellOf 98 = .ok (.getfield 225, 3) := by decide +kernel
theorem d_M_cellOf_101 : decode b_M_cellOf 101 = .ok (.iconst 1, 1) := by decide +kernel
theorem d_M_cellOf_102 : decode b_M_cellOf 102 = .ok (.iadd, 1) := by decide +kernel
theorem d_M_cellOf_103 : decode b_M_cellOf 103 = .ok (.laload, 1) := by decide +kernel
theorem d_M_cellOf_104 : decode b_M_cellOf 104 = .ok (.goto 4, 3) := by decide +kernel
theorem d_M_cellOf_107 : decode b_M_cellOf 107 = .ok (.lconst 0, 1) := by decide +kernel
theorem d_M_cellOf_108 : decode b_M_cellOf 108 = .ok (.lstore 7, 2) := by decide +kernel
theorem d_M_cellOf_110 : decode b_M_cellOf 110 = .ok (.lload 4, 2) := by decide +kernel
theorem d_M_cellOf_112 : decode b_M_cellOf 112 = .ok (.lconst 0, 1) := by decide +kernel
theorem d_M_cellOf_113 : decode b_M_cellOf 113 = .ok (.lcmp, 1) := by decide +kernel
theorem d_M_cellOf_114 : decode b_M_cellOf 114 = .ok (.ifCond .lt 36, 3) := by decide +kernel
theorem d_M_cellOf_117 : decode b_M_cellOf 117 = .ok (.lload 4, 2) := by decide +kernel
theorem d_M_cellOf_119 : decode b_M_cellOf 119 = .ok (.aload_n 0, 1) := by decide +kernel
theorem d_M_cellOf_120 : decode b_M_cellOf 120 = .ok (.getfield 74, 3) := by decide +kernel
theorem d_M_cellOf_123 : decode b_M_cellOf 123 = .ok (.iload_n 3, 1) := by decide +kernel
theorem d_M_cellOf_124 : decode b_M_cellOf 124 = .ok (.iaload, 1) := by decide +kernel
theorem d_M_cellOf_125 : decode b_M_cellOf 125 = .ok (.i2l, 1) := by decide +kernel
theorem d_M_cellOf_126 : decode b_M_cellOf 126 = .ok (.lcmp, 1) := by decide +kernel
theorem d_M_cellOf_127 : decode b_M_cellOf 127 = .ok (.ifCond .ge 23, 3) := by decide +kernel
theorem d_M_cellOf_130 : decode b_M_cellOf 130 = .ok (.lload 7, 2) := by decide +kernel
theorem d_M_cellOf_132 : decode b_M_cellOf 132 = .ok (.lconst 0, 1) := by decide +kernel
theorem d_M_cellOf_133 : decode b_M_cellOf 133 = .ok (.lcmp, 1) := by decide +kernel
theorem d_M_cellOf_134 : decode b_M_cellOf 134 = .ok (.ifCond .lt 16, 3) := by decide +kernel
theorem d_M_cellOf_137 : decode b_M_cellOf 137 = .ok (.lload 7, 2) := by decide +kernel
theorem d_M_cellOf_139 : decode b_M_cellOf 139 = .ok (.aload_n 0, 1) := by decide +kernel
theorem d_M_cellOf_140 : decode b_M_cellOf 140 = .ok (.getfield 77, 3) := by decide +kernel
theorem d_M_cellOf_143 : decode b_M_cellOf 143 = .ok (.iload_n 3, 1) := by decide +kernel
theorem d_M_cellOf_144 : decode b_M_cellOf 144 = .ok (.iaload, 1) := by decide +kernel
theorem d_M_cellOf_145 : decode b_M_cellOf 145 = .ok (.i2l, 1) := by decide +kernel
theorem d_M_cellOf_146 : decode b_M_cellOf 146 = .ok (.lcmp, 1) := by decide +kernel
theorem d_M_cellOf_147 : decode b_M_cellOf 147 = .ok (.ifCond .lt 9, 3) := by decide +kernel
theorem d_M_cellOf_150 : decode b_M_cellOf 150 = .ok (.aload_n 0, 1) := by decide +kernel
theorem d_M_cellOf_151 : decode b_M_cellOf 151 = .ok (.iconst 3, 1) := by decide +kernel
theorem d_M_cellOf_152 : decode b_M_cellOf 152 = .ok (.putfield 222, 3) := by decide +kernel
theorem d_M_cellOf_155 : decode b_M_cellOf 155 = .ok (.return_, 1) := by decide +kernel
theorem d_M_cellOf_156 : decode b_M_cellOf 156 = .ok (.lload 4, 2) := by decide +kernel
theorem d_M_cellOf_158 : decode b_M_cellOf 158 = .ok (.aload_n 0, 1) := by decide +kernel
theorem d_M_cellOf_159 : decode b_M_cellOf 159 = .ok (.getfield 77, 3) := by decide +kernel
theorem d_M_cellOf_162 : decode b_M_cellOf 162 = .ok (.iload_n 3, 1) := by decide +kernel
theorem d_M_cellOf_163 : decode b_M_cellOf 163 = .ok (.iaload, 1) := by decide +kernel
theorem d_M_cellOf_164 : decode b_M_cellOf 164 = .ok (.i2l, 1) := by decide +kernel
theorem d_M_cellOf_165 : decode b_M_cellOf 165 = .ok (.lmul, 1) := by decide +kernel
theorem d_M_cellOf_166 : decode b_M_cellOf 166 = .ok (.lload 7, 2) := by decide +kernel
theorem d_M_cellOf_168 : decode b_M_cellOf 168 = .ok (.ladd, 1) := by decide +kernel
theorem d_M_cellOf_169 : decode b_M_cellOf 169 = .ok (.l2i, 1) := by decide +kernel
theorem d_M_cellOf_170 : decode b_M_cellOf 170 = .ok (.istore 9, 2) := by decide +kernel
theorem d_M_cellOf_172 : decode b_M_cellOf 172 = .ok (.iload_n 2, 1) := by decide +kernel
theorem d_M_cellOf_173 : decode b_M_cellOf 173 = .ok (.ifCond .ne 21, 3) := by decide +kernel
theorem d_M_cellOf_176 : decode b_M_cellOf 176 = .ok (.aload_n 0, 1) := by decide +kernel
theorem d_M_cellOf_177 : decode b_M_cellOf 177 = .ok (.aload_n 0, 1) := by decide +kernel
theorem d_M_cellOf_178 : decode b_M_cellOf 178 = .ok (.getfield 70, 3) := by decide +kernel
theorem d_M_cellOf_181 : decode b_M_cellOf 181 = .ok (.bipush 40, 2) := by decide +kernel
theorem d_M_cellOf_183 : decode b_M_cellOf 183 = .ok (.iload_n 3, 1) := by decide +kernel
theorem d_M_cellOf_184 : decode b_M_cellOf 184 = .ok (.imul, 1) := by decide +kernel
theorem d_M_cellOf_185 : decode b_M_cellOf 185 = .ok (.iload 9, 2) := by decide +kernel
theorem d_M_cellOf_187 : decode b_M_cellOf 187 = .ok (.iadd, 1) := by decide +kernel
theorem d_M_cellOf_188 : decode b_M_cellOf 188 = .ok (.laload, 1) := by decide +kernel
theorem d_M_cellOf_189 : decode b_M_cellOf 189 = .ok (.iconst (-1), 1) := by decide +kernel
theorem d_M_cellOf_190 : decode b_M_cellOf 190 = .ok (.invokevirtual 246, 3) := by decide +kernel
theorem d_M_cellOf_193 : decode b_M_cellOf 193 = .ok (.return_, 1) := by decide +kernel
theorem d_M_cellOf_194 : decode b_M_cellOf 194 = .ok (.aload_n 0, 1) := by decide +kernel
theorem d_M_cellOf_195 : decode b_M_cellOf 195 = .ok (.aload_n 0, 1) := by decide +kernel
theorem d_M_cellOf_196 : decode b_M_cellOf 196 = .ok (.getfield 74, 3) := by decide +kernel
theorem d_M_cellOf_199 : decode b_M_cellOf 199 = .ok (.iload_n 3, 1) := by decide +kernel
theorem d_M_cellOf_200 : decode b_M_cellOf 200 = .ok (.iaload, 1) := by decide +kernel
theorem d_M_cellOf_201 : decode b_M_cellOf 201 = .ok (.i2l, 1) := by decide +kernel
theorem d_M_cellOf_202 : decode b_M_cellOf 202 = .ok (.aload_n 0, 1) := by decide +kernel
theorem d_M_cellOf_203 : decode b_M_cellOf 203 = .ok (.getfield 77, 3) := by decide +kernel
theorem d_M_cellOf_206 : decode b_M_cellOf 206 = .ok (.iload_n 3, 1) := by decide +kernel
theorem d_M_cellOf_207 : decode b_M_cellOf 207 = .ok (.iaload, 1) := by decide +kernel
theorem d_M_cellOf_208 : decode b_M_cellOf 208 = .ok (.i2l, 1) := by decide +kernel
theorem d_M_cellOf_209 : decode b_M_cellOf 209 = .ok (.iload_n 3, 1) := by decide +kernel
theorem d_M_cellOf_210 : decode b_M_cellOf 210 = .ok (.invokevirtual 242, 3) := by decide +kernel
theorem d_M_cellOf_213 : decode b_M_cellOf 213 = .ok (.istore 10, 2) := by decide +kernel
theorem d_M_cellOf_215 : decode b_M_cellOf 215 = .ok (.aload_n 0, 1) := by decide +kernel
theorem d_M_cellOf_216 : decode b_M_cellOf 216 = .ok (.getfield 70, 3) := by decide +kernel
theorem d_M_cellOf_219 : decode b_M_cellOf 219 = .ok (.bipush 40, 2) := by decide +kernel
theorem d_M_cellOf_221 : decode b_M_cellOf 221 = .ok (.iload 10, 2) := by decide +kernel
theorem d_M_cellOf_223 : decode b_M_cellOf 223 = .ok (.imul, 1) := by decide +kernel
theorem d_M_cellOf_224 : decode b_M_cellOf 224 = .ok (.iload 9, 2) := by decide +kernel
theorem d_M_cellOf_226 : decode b_M_cellOf 226 = .ok (.iadd, 1) := by decide +kernel
theorem d_M_cellOf_227 : decode b_M_cellOf 227 = .ok (.aload_n 0, 1) := by decide +kernel
theorem d_M_cellOf_228 : decode b_M_cellOf 228 = .ok (.getfield 86, 3) := by decide +kernel
theorem d_M_cellOf_231 : decode b_M_cellOf 231 = .ok (.aload_n 0, 1) := by decide +kernel
theorem d_M_cellOf_232 : decode b_M_cellOf 232 = .ok (.getfield 225, 3) := by decide +kernel
theorem d_M_cellOf_235 : decode b_M_cellOf 235 = .ok (.aload_n 0, 1) := by decide +kernel
theorem d_M_cellOf_236 : decode b_M_cellOf 236 = .ok (.getfield 27, 3) := by decide +kernel
theorem d_M_cellOf_239 : decode b_M_cellOf 239 = .ok (.iload_n 1, 1) := by decide +kernel
theorem d_M_cellOf_240 : decode b_M_cellOf 240 = .ok (.iaload, 1) := by decide +kernel
theorem d_M_cellOf_241 : decode b_M_cellOf 241 = .ok (.iadd, 1) := by decide +kernel
theorem d_M_cellOf_242 : decode b_M_cellOf 242 = .ok (.iconst 1, 1) := by decide +kernel
theorem d_M_cellOf_243 : decode b_M_cellOf 243 = .ok (.isub, 1) := by decide +kernel
theorem d_M_cellOf_244 : decode b_M_cellOf 244 = .ok (.laload, 1) := by decide +kernel
theorem d_M_cellOf_245 : decode b_M_cellOf 245 = .ok (.lastore, 1) := by decide +kernel
theorem d_M_cellOf_246 : decode b_M_cellOf 246 = .ok (.aload_n 0, 1) := by decide +kernel
theorem d_M_cellOf_247 : decode b_M_cellOf 247 = .ok (.dup, 1) := by decide +kernel
theorem d_M_cellOf_248 : decode b_M_cellOf 248 = .ok (.getfield 253, 3) := by decide +kernel
theorem d_M_cellOf_251 : decode b_M_cellOf 251 = .ok (.iconst 1, 1) := by decide +kernel
theorem d_M_cellOf_252 : decode b_M_cellOf 252 = .ok (.iadd, 1) := by decide +kernel
theorem d_M_cellOf_253 : decode b_M_cellOf 253 = .ok (.putfield 253, 3) := by decide +kernel
theorem d_M_cellOf_256 : decode b_M_cellOf 256 = .ok (.aload_n 0, 1) := by decide +kernel
theorem d_M_cellOf_257 : decode b_M_cellOf 257 = .ok (.lconst 0, 1) := by decide +kernel
theorem d_M_cellOf_258 : decode b_M_cellOf 258 = .ok (.iload 10, 2) := by decide +kernel
theorem d_M_cellOf_260 : decode b_M_cellOf 260 = .ok (.invokevirtual 246, 3) := by decide +kernel
theorem d_M_cellOf_263 : decode b_M_cellOf 263 = .ok (.return_, 1) := by decide +kernel
theorem d_M_enter_0 : decode b_M_enter 0 = .ok (.aload_n 0, 1) := by decide +kernel
theorem d_M_enter_1 : decode b_M_enter 1 = .ok (.getfield 21, 3) := by decide +kernel
theorem d_M_enter_4 : decode b_M_enter 4 = .ok (.iload_n 1, 1) := by decide +kernel
theorem d_M_enter_5 : decode b_M_enter 5 = .ok (.iaload, 1) := by decide +kernel
theorem d_M_enter_6 : decode b_M_enter 6 = .ok (.istore_n 2, 1) := by decide +kernel
theorem d_M_enter_7 : decode b_M_enter 7 = .ok (.aload_n 0, 1) := by decide +kernel
theorem d_M_enter_8 : decode b_M_enter 8 = .ok (.getfield 250, 3) := by decide +kernel
theorem d_M_enter_11 : decode b_M_enter 11 = .ok (.bipush 7, 2) := by decide +kernel
theorem d_M_enter_13 : decode b_M_enter 13 = .ok (.if_icmp .ne 9, 3) := by decide +kernel
theorem d_M_enter_16 : decode b_M_enter 16 = .ok (.aload_n 0, 1) := by decide +kernel
theorem d_M_enter_17 : decode b_M_enter 17 = .ok (.iconst 5, 1) := by decide +kernel
theorem d_M_enter_18 : decode b_M_enter 18 = .ok (.putfield 222, 3) := by decide +kernel
theorem d_M_enter_21 : decode b_M_enter 21 = .ok (.return_, 1) := by decide +kernel
theorem d_M_enter_22 : decode b_M_enter 22 = .ok (.aload_n 0, 1) := by decide +kernel
theorem d_M_enter_23 : decode b_M_enter 23 = .ok (.dup, 1) := by decide +kernel
theorem d_M_enter_24 : decode b_M_enter 24 = .ok (.getfield 250, 3) := by decide +kernel
theorem d_M_enter_27 : decode b_M_enter 27 = .ok (.iconst 1, 1) := by decide +kernel
theorem d_M_enter_28 : decode b_M_enter 28 = .ok (.iadd, 1) := by decide +kernel
theorem d_M_enter_29 : decode b_M_enter 29 = .ok (.putfield 250, 3) := by decide +kernel
theorem d_M_enter_32 : decode b_M_enter 32 = .ok (.aload_n 0, 1) := by decide +kernel
theorem d_M_enter_33 : decode b_M_enter 33 = .ok (.dup, 1) := by decide +kernel
theorem d_M_enter_34 : decode b_M_enter 34 = .ok (.getfield 225, 3) := by decide +kernel
theorem d_M_enter_37 : decode b_M_enter 37 = .ok (.aload_n 0, 1) := by decide +kernel
theorem d_M_enter_38 : decode b_M_enter 38 = .ok (.getfield 37, 3) := by decide +kernel
theorem d_M_enter_41 : decode b_M_enter 41 = .ok (.iload_n 2, 1) := by decide +kernel
theorem d_M_enter_42 : decode b_M_enter 42 = .ok (.iaload, 1) := by decide +kernel
theorem d_M_enter_43 : decode b_M_enter 43 = .ok (.isub, 1) := by decide +kernel
theorem d_M_enter_44 : decode b_M_enter 44 = .ok (.putfield 225, 3) := by decide +kernel
theorem d_M_enter_47 : decode b_M_enter 47 = .ok (.iconst 0, 1) := by decide +kernel
theorem d_M_enter_48 : decode b_M_enter 48 = .ok (.istore_n 3, 1) := by decide +kernel
theorem d_M_enter_49 : decode b_M_enter 49 = .ok (.iload_n 3, 1) := by decide +kernel
theorem d_M_enter_50 : decode b_M_enter 50 = .ok (.aload_n 0, 1) := by decide +kernel
theorem d_M_enter_51 : decode b_M_enter 51 = .ok (.getfield 37, 3) := by decide +kernel
theorem d_M_enter_54 : decode b_M_enter 54 = .ok (.iload_n 2, 1) := by decide +kernel
theorem d_M_enter_55 : decode b_M_enter 55 = .ok (.iaload, 1) := by decide +kernel
theorem d_M_enter_56 : decode b_M_enter 56 = .ok (.if_icmp .ge 29, 3) := by decide +kernel
theorem d_M_enter_59 : decode b_M_enter 59 = .ok (.aload_n 0, 1) := by decide +kernel
theorem d_M_enter_60 : decode b_M_enter 60 = .ok (.aload_n 0, 1) := by decide +kernel
theorem d_M_enter_61 : decode b_M_enter 61 = .ok (.getfield 43, 3) := by decide +kernel
theorem d_M_enter_64 : decode b_M_enter 64 = .ok (.iconst 4, 1) := by decide +kernel
theorem d_M_enter_65 : decode b_M_enter 65 = .ok (.iload_n 2, 1) := by decide +kernel
theorem d_M_enter_66 : decode b_M_enter 66 = .ok (.imul, 1) := by decide +kernel
theorem d_M_enter_67 : decode b_M_enter 67 = .ok (.iload_n 3, 1) := by decide +kernel
theorem d_M_enter_68 : decode b_M_enter 68 = .ok (.iadd, 1) := by decide +kernel
theorem d_M_enter_69 : decode b_M_enter 69 = .ok (.iaload, 1) := by decide +kernel
theorem d_M_enter_70 : decode b_M_enter 70 = .ok (.aload_n 0, 1) := by decide +kernel
theorem d_M_enter_71 : decode b_M_enter 71 = .ok (.getfield 225, 3) := by decide +kernel
theorem d_M_enter_74 : decode b_M_enter 74 = .ok (.iload_n 3, 1) := by decide +kernel
theorem d_M_enter_75 : decode b_M_enter 75 = .ok (.iadd, 1) := by decide +kernel
theorem d_M_enter_76 : decode b_M_enter 76 = .ok (.invokevirtual 256, 3) := by decide +kernel
theorem d_M_enter_79 : decode b_M_enter 79 = .ok (.iinc 3 1, 3) := by decide +kernel
theorem d_M_enter_82 : decode b_M_enter 82 = .ok (.goto (-33), 3) := by decide +kernel
theorem d_M_enter_85 : decode b_M_enter 85 = .ok (.aload_n 0, 1) := by decide +kernel
theorem d_M_enter_86 : decode b_M_enter 86 = .ok (.sipush 150, 3) := by decide +kernel
theorem d_M_enter_89 : decode b_M_enter 89 = .ok (.iload_n 2, 1) := by decide +kernel
theorem d_M_enter_90 : decode b_M_enter 90 = .ok (.imul, 1) := by decide +kernel
theorem d_M_enter_91 : decode b_M_enter 91 = .ok (.invokevirtual 259, 3) := by decide +kernel
theorem d_M_enter_94 : decode b_M_enter 94 = .ok (.return_, 1) := by decide +kernel
theorem d_M_hold_0 : decode b_M_hold 0 = .ok (.aload_n 0, 1) := by decide +kernel
theorem d_M_hold_1 : decode b_M_hold 1 = .ok (.getfield 80, 3) := by decide +kernel
theorem d_M_hold_4 : decode b_M_hold 4 = .ok (.bipush 20, 2) := by decide +kernel
theorem d_M_hold_6 : decode b_M_hold 6 = .ok (.aload_n 0, 1) := by decide +kernel
theorem d_M_hold_7 : decode b_M_hold 7 = .ok (.getfield 250, 3) := by decide +kernel
theorem d_M_hold_10 : decode b_M_hold 10 = .ok (.imul, 1) := by decide +kernel
theorem d_M_hold_11 : decode b_M_hold 11 = .ok (.iload_n 1, 1) := by decide +kernel
theorem d_M_hold_12 : decode b_M_hold 12 = .ok (.iadd, 1) := by decide +kernel
theorem d_M_hold_13 : decode b_M_hold 13 = .ok (.aload_n 0, 1) := by decide +kernel
theorem d_M_hold_14 : decode b_M_hold 14 = .ok (.getfield 86, 3) := by decide +kernel
theorem d_M_hold_17 : decode b_M_hold 17 = .ok (.iload_n 2, 1) := by decide +kernel
theorem d_M_hold_18 : decode b_M_hold 18 = .ok (.laload, 1) := by decide +kernel
theorem d_M_hold_19 : decode b_M_hold 19 = .ok (.lastore, 1) := by decide +kernel
theorem d_M_hold_20 : decode b_M_hold 20 = .ok (.aload_n 0, 1) := by decide +kernel
theorem d_M_hold_21 : decode b_M_hold 21 = .ok (.getfield 83, 3) := by decide +kernel
theorem d_M_hold_24 : decode b_M_hold 24 = .ok (.bipush 20, 2) := by decide +kernel
theorem d_M_hold_26 : decode b_M_hold 26 = .ok (.aload_n 0, 1) := by decide +kernel
theorem d_M_hold_27 : decode b_M_hold 27 = .ok (.getfield 250, 3) := by decide +kernel
theorem d_M_hold_30 : decode b_M_hold 30 = .ok (.imul, 1) := by decide +kernel
theorem d_M_hold_31 : decode b_M_hold 31 = .ok (.iload_n 1, 1) := by decide +kernel
theorem d_M_hold_32 : decode b_M_hold 32 = .ok (.iadd, 1) := by decide +kernel
theorem d_M_hold_33 : decode b_M_hold 33 = .ok (.aload_n 0, 1) := by decide +kernel
theorem d_M_hold_34 : decode b_M_hold 34 = .ok (.getfield 89, 3) := by decide +kernel
theorem d_M_hold_37 : decode b_M_hold 37 = .ok (.iload_n 2, 1) := by decide +kernel
theorem d_M_hold_38 : decode b_M_hold 38 = .ok (.iaload, 1) := by decide +kernel
theorem d_M_hold_39 : decode b_M_hold 39 = .ok (.iastore, 1) := by decide +kernel
theorem d_M_hold_40 : decode b_M_hold 40 = .ok (.return_, 1) := by decide +kernel
theorem d_M_pass_0 : decode b_M_pass 0 = .ok (.aload_n 0, 1) := by decide +kernel
theorem d_M_pass_1 : decode b_M_pass 1 = .ok (.dup, 1) := by decide +kernel
theorem d_M_pass_2 : decode b_M_pass 2 = .ok (.getfield 129, 3) := by decide +kernel
theorem d_M_pass_5 : decode b_M_pass 5 = .ok (.iconst 1, 1) := by decide +kernel
theorem d_M_pass_6 : decode b_M_pass 6 = .ok (.isub, 1) := by decide +kernel
theorem d_M_pass_7 : decode b_M_pass 7 = .ok (.putfield 129, 3) := by decide +kernel
theorem d_M_pass_10 : decode b_M_pass 10 = .ok (.return_, 1) := by decide +kernel
theorem d_M_goOn_0 : decode b_M_goOn 0 = .ok (.aload_n 0, 1) := by decide +kernel
theorem d_M_goOn_1 : decode b_M_goOn 1 = .ok (.getfield 52, 3) := by decide +kernel
theorem d_M_goOn_4 : decode b_M_goOn 4 = .ok (.aload_n 0, 1) := by decide +kernel
theorem d_M_goOn_5 : decode b_M_goOn 5 = .ok (.getfield 129, 3) := by decide +kernel
theorem d_M_goOn_8 : decode b_M_goOn 8 = .ok (.iconst 1, 1) := by decide +kernel
theorem d_M_goOn_9 : decode b_M_goOn 9 = .ok (.isub, 1) := by decide +kernel
theorem d_M_goOn_10 : decode b_M_goOn 10 = .ok (.iaload, 1) := by decide +kernel
theorem d_M_goOn_11 : decode b_M_goOn 11 = .ok (.istore_n 1, 1) := by decide +kernel
theorem d_M_goOn_12 : decode b_M_goOn 12 = .ok (.aload_n 0, 1) := by decide +kernel
theorem d_M_goOn_13 : decode b_M_goOn 13 = .ok (.getfield 55, 3) := by decide +kernel
theorem d_M_goOn_16 : decode b_M_goOn 16 = .ok (.aload_n 0, 1) := by decide +kernel
theorem d_M_goOn_17 : decode b_M_goOn 17 = .ok (.getfield 129, 3) := by decide +kernel
theorem d_M_goOn_20 : decode b_M_goOn 20 = .ok (.iconst 1, 1) := by decide +kernel
theorem d_M_goOn_21 : decode b_M_goOn 21 = .ok (.isub, 1) := by decide +kernel
theorem d_M_goOn_22 : decode b_M_goOn 22 = .ok (.iaload, 1) := by decide +kernel
theorem d_M_goOn_23 : decode b_M_goOn 23 = .ok (.istore_n 2, 1) := by decide +kernel
theorem d_M_goOn_24 : decode b_M_goOn 24 = .ok (.aload_n 0, 1) := by decide +kernel
theorem d_M_goOn_25 : decode b_M_goOn 25 = .ok (.getfield 55, 3) := by decide +kernel
theorem d_M_goOn_28 : decode b_M_goOn 28 = .ok (.aload_n 0, 1) := by decide +kernel
theorem d_M_goOn_29 : decode b_M_goOn 29 = .ok (.getfield 129, 3) := by decide +kernel
theorem d_M_goOn_32 : decode b_M_goOn 32 = .ok (.iconst 1, 1) := by decide +kernel
theorem d_M_goOn_33 : decode b_M_goOn 33 = .ok (.isub, 1) := by decide +kernel
theorem d_M_goOn_34 : decode b_M_goOn 34 = .ok (.dup2, 1) := by decide +kernel
theorem d_M_goOn_35 : decode b_M_goOn 35 = .ok (.iaload, 1) := by decide +kernel
theorem d_M_goOn_36 : decode b_M_goOn 36 = .ok (.iconst 1, 1) := by decide +kernel
theorem d_M_goOn_37 : decode b_M_goOn 37 = .ok (.iadd, 1) := by decide +kernel
theorem d_M_goOn_38 : decode b_M_goOn 38 = .ok (.iastore, 1) := by decide +kernel
theorem d_M_goOn_39 : decode b_M_goOn 39 = .ok (.iload_n 1, 1) := by decide +kernel
theorem d_M_goOn_40 : decode b_M_goOn 40 = .ok (.iconst 1, 1) := by decide +kernel
theorem d_M_goOn_41 : decode b_M_goOn 41 = .ok (.iadd, 1) := by decide +kernel
theorem d_M_goOn_42 : decode b_M_goOn 42 = .ok (.istore_n 3, 1) := by decide +kernel
theorem d_M_goOn_43 : decode b_M_goOn 43 = .ok (.iconst 0, 1) := by decide +kernel
theorem d_M_goOn_44 : decode b_M_goOn 44 = .ok (.istore 4, 2) := by decide +kernel
theorem d_M_goOn_46 : decode b_M_goOn 46 = .ok (.iload 4, 2) := by decide +kernel
theorem d_M_goOn_48 : decode b_M_goOn 48 = .ok (.iload_n 2, 1) := by decide +kernel
theorem d_M_goOn_49 : decode b_M_goOn 49 = .ok (.if_icmp .ge 27, 3) := by decide +kernel
theorem d_M_goOn_52 : decode b_M_goOn 52 = .ok (.iload 4, 2) := by decide +kernel
theorem d_M_goOn_54 : decode b_M_goOn 54 = .ok (.aload_n 0, 1) := by decide +kernel
theorem d_M_goOn_55 : decode b_M_goOn 55 = .ok (.getfield 27, 3) := by decide +kernel
theorem d_M_goOn_58 : decode b_M_goOn 58 = .ok (.iload_n 1, 1) := by decide +kernel
theorem d_M_goOn_59 : decode b_M_goOn 59 = .ok (.iaload, 1) := by decide +kernel
theorem d_M_goOn_60 : decode b_M_goOn 60 = .ok (.if_icmp .ge 16, 3) := by decide +kernel
theorem d_M_goOn_63 : decode b_M_goOn 63 = .ok (.aload_n 0, 1) := by decide +kernel
theorem d_M_goOn_64 : decode b_M_goOn 64 = .ok (.getfield 30, 3) := by decide +kernel
theorem d_M_goOn_67 : decode b_M_goOn 67 = .ok (.iload_n 3, 1) := by decide +kernel
theorem d_M_goOn_68 : decode b_M_goOn 68 = .ok (.iaload, 1) := by decide +kernel
theorem d_M_goOn_69 : decode b_M_goOn 69 = .ok (.istore_n 3, 1) := by decide +kernel
theorem d_M_goOn_70 : decode b_M_goOn 70 = .ok (.iinc 4 1, 3) := by decide +kernel
theorem d_M_goOn_73 : decode b_M_goOn 73 = .ok (.goto (-27), 3) := by decide +kernel
theorem d_M_goOn_76 : decode b_M_goOn 76 = .ok (.aload_n 0, 1) := by decide +kernel
theorem d_M_goOn_77 : decode b_M_goOn 77 = .ok (.getfield 17, 3) := by decide +kernel
theorem d_M_goOn_80 : decode b_M_goOn 80 = .ok (.iload_n 1, 1) := by decide +kernel
theorem d_M_goOn_81 : decode b_M_goOn 81 = .ok (.iaload, 1) := by decide +kernel
theorem d_M_goOn_82 : decode b_M_goOn 82 = .ok (.tableswitch 434 0 13 #[70, 85, 434, 242, 303, 434, 434, 434, 434, 130, 163, 196, 352, 381], 70) := by decide +kernel
theorem d_M_goOn_152 : decode b_M_goOn 152 = .ok (.aload_n 0, 1) := by decide +kernel
theorem d_M_goOn_153 : decode b_M_goOn 153 = .ok (.aload_n 0, 1) := by decide +kernel
theorem d_M_goOn_154 : decode b_M_goOn 154 = .ok (.getfield 21, 3) := by decide +kernel
theorem d_M_goOn_157 : decode b_M_goOn 157 = .ok (.iload_n 1, 1) := by decide +kernel
theorem d_M_goOn_158 : decode b_M_goOn 158 = .ok (.iaload, 1) := by decide +kernel
theorem d_M_goOn_159 : decode b_M_goOn 159 = .ok (.i2l, 1) := by decide +kernel
theorem d_M_goOn_160 : decode b_M_goOn 160 = .ok (.iconst (-1), 1) := by decide +kernel
theorem d_M_goOn_161 : decode b_M_goOn 161 = .ok (.invokevirtual 246, 3) := by decide +kernel
theorem d_M_goOn_164 : decode b_M_goOn 164 = .ok (.goto 375, 3) := by decide +kernel
theorem d_M_goOn_167 : decode b_M_goOn 167 = .ok (.aload_n 0, 1) := by decide +kernel
theorem d_M_goOn_168 : decode b_M_goOn 168 = .ok (.aload_n 0, 1) := by decide +kernel
theorem d_M_goOn_169 : decode b_M_goOn 169 = .ok (.getfield 80, 3) := by decide +kernel
theorem d_M_goOn_172 : decode b_M_goOn 172 = .ok (.bipush 20, 2) := by decide +kernel
theorem d_M_goOn_174 : decode b_M_goOn 174 = .ok (.aload_n 0, 1) := by decide +kernel
theorem d_M_goOn_175 : decode b_M_goOn 175 = .ok (.getfield 250, 3) := by decide +kernel
theorem d_M_goOn_178 : decode b_M_goOn 178 = .ok (.imul, 1) := by decide +kernel
theorem d_M_goOn_179 : decode b_M_goOn 179 = .ok (.aload_n 0, 1) := by decide +kernel
theorem d_M_goOn_180 : decode b_M_goOn 180 = .ok (.getfield 21, 3) := by decide +kernel
theorem d_M_goOn_183 : decode b_M_goOn 183 = .ok (.iload_n 1, 1) := by decide +kernel
theorem d_M_goOn_184 : decode b_M_goOn 184 = .ok (.iaload, 1) := by decide +kernel
theorem d_M_goOn_185 : decode b_M_goOn 185 = .ok (.iadd, 1) := by decide +kernel
theorem d_M_goOn_186 : decode b_M_goOn 186 = .ok (.laload, 1) := by decide +kernel
theorem d_M_goOn_187 : decode b_M_goOn 187 = .ok (.aload_n 0, 1) := by decide +kernel
theorem d_M_goOn_188 : decode b_M_goOn 188 = .ok (.getfield 83, 3) := by decide +kernel
theorem d_M_goOn_191 : decode b_M_goOn 191 = .ok (.bipush 20, 2) := by decide +kernel
theorem d_M_goOn_193 : decode b_M_goOn 193 = .ok (.aload_n 0, 1) := by decide +kernel
theorem d_M_goOn_194 : decode b_M_goOn 194 = .ok (.getfield 250, 3) := by decide +kernel
theorem d_M_goOn_197 : decode b_M_goOn 197 = .ok (.imul, 1) := by decide +kernel
theorem d_M_goOn_198 : decode b_M_goOn 198 = .ok (.aload_n 0, 1) := by decide +kernel
theorem d_M_goOn_199 : decode b_M_goOn 199 = .ok (.getfield 21, 3) := by decide +kernel
theorem d_M_goOn_202 : decode b_M_goOn 202 = .ok (.iload_n 1, 1) := by decide +kernel
theorem d_M_goOn_203 : decode b_M_goOn 203 = .ok (.iaload, 1) := by decide +kernel
theorem d_M_goOn_204 : decode b_M_goOn 204 = .ok (.iadd, 1) := by decide +kernel
theorem d_M_goOn_205 : decode b_M_goOn 205 = .ok (.iaload, 1) := by decide +kernel
theorem d_M_goOn_206 : decode b_M_goOn 206 = .ok (.invokevirtual 246, 3) := by decide +kernel
theorem d_M_goOn_209 : decode b_M_goOn 209 = .ok (.goto 330, 3) := by decide +kernel
theorem d_M_goOn_212 : decode b_M_goOn 212 = .ok (.aload_n 0, 1) := by decide +kernel
theorem d_M_goOn_213 : decode b_M_goOn 213 = .ok (.aload_n 0, 1) := by decide +kernel
theorem d_M_goOn_214 : decode b_M_goOn 214 = .ok (.getfield 74, 3) := by decide +kernel
theorem d_M_goOn_217 : decode b_M_goOn 217 = .ok (.aload_n 0, 1) := by decide +kernel
theorem d_M_goOn_218 : decode b_M_goOn 218 = .ok (.getfield 83, 3) := by decide +kernel
theorem d_M_goOn_221 : decode b_M_goOn 221 = .ok (.bipush 20, 2) := by decide +kernel
theorem d_M_goOn_223 : decode b_M_goOn 223 = .ok (.aload_n 0, 1) := by decide +kernel
theorem d_M_goOn_224 : decode b_M_goOn 224 = .ok (.getfield 250, 3) := by decide +kernel
theorem d_M_goOn_227 : decode b_M_goOn 227 = .ok (.imul, 1) := by decide +kernel
theorem d_M_goOn_228 : decode b_M_goOn 228 = .ok (.aload_n 0, 1) := by decide +kernel
theorem d_M_goOn_229 : decode b_M_goOn 229 = .ok (.getfield 21, 3) := by decide +kernel
theorem d_M_goOn_232 : decode b_M_goOn 232 = .ok (.iload_n 1, 1) := by decide +kernel
theorem d_M_goOn_233 : decode b_M_goOn 233 = .ok (.iaload, 1) := by decide +kernel
theorem d_M_goOn_234 : decode b_M_goOn 234 = .ok (.iadd, 1) := by decide +kernel
theorem d_M_goOn_235 : decode b_M_goOn 235 = .ok (.iaload, 1) := by decide +kernel
theorem d_M_goOn_236 : decode b_M_goOn 236 = .ok (.iaload, 1) := by decide +kernel
theorem d_M_goOn_237 : decode b_M_goOn 237 = .ok (.i2l, 1) := by decide +kernel
theorem d_M_goOn_238 : decode b_M_goOn 238 = .ok (.iconst (-1), 1) := by decide +kernel
theorem d_M_goOn_239 : decode b_M_goOn 239 = .ok (.invokevirtual 246, 3) := by decide +kernel
theorem d_M_goOn_242 : decode b_M_goOn 242 = .ok (.goto 297, 3) := by decide +kernel
theorem d_M_goOn_245 : decode b_M_goOn 245 = .ok (.aload_n 0, 1) := by decide +kernel
theorem d_M_goOn_246 : decode b_M_goOn 246 = .ok (.aload_n 0, 1) := by decide +kernel
theorem d_M_goOn_247 : decode b_M_goOn 247 = .ok (.getfield 77, 3) := by decide +kernel
theorem d_M_goOn_250 : decode b_M_goOn 250 = .ok (.aload_n 0, 1) := by decide +kernel
theorem d_M_goOn_251 : decode b_M_goOn 251 = .ok (.getfield 83, 3) := by decide +kernel
theorem d_M_goOn_254 : decode b_M_goOn 254 = .ok (.bipush 20, 2) := by decide +kernel
theorem d_M_goOn_256 : decode b_M_goOn 256 = .ok (.aload_n 0, 1) := by decide +kernel
theorem d_M_goOn_257 : decode b_M_goOn 257 = .ok (.getfield 250, 3) := by decide +kernel
theorem d_M_goOn_260 : decode b_M_goOn 260 = .ok (.imul, 1) := by decide +kernel
theorem d_M_goOn_261 : decode b_M_goOn 261 = .ok (.aload_n 0, 1) := by decide +kernel
theorem d_M_goOn_262 : decode b_M_goOn 262 = .ok (.getfield 21, 3) := by decide +kernel
theorem d_M_goOn_265 : decode b_M_goOn 265 = .ok (.iload_n 1, 1) := by decide +kernel
theorem d_M_goOn_266 : decode b_M_goOn 266 = .ok (.iaload, 1) := by decide +kernel
theorem d_M_goOn_267 : decode b_M_goOn 267 = .ok (.iadd, 1) := by decide +kernel
theorem d_M_goOn_268 : decode b_M_goOn 268 = .ok (.iaload, 1) := by decide +kernel
theorem d_M_goOn_269 : decode b_M_goOn 269 = .ok (.iaload, 1) := by decide +kernel
theorem d_M_goOn_270 : decode b_M_goOn 270 = .ok (.i2l, 1) := by decide +kernel
theorem d_M_goOn_271 : decode b_M_goOn 271 = .ok (.iconst (-1), 1) := by decide +kernel
theorem d_M_goOn_272 : decode b_M_goOn 272 = .ok (.invokevirtual 246, 3) := by decide +kernel
theorem d_M_goOn_275 : decode b_M_goOn 275 = .ok (.goto 264, 3) := by decide +kernel
theorem d_M_goOn_278 : decode b_M_goOn 278 = .ok (.aload_n 0, 1) := by decide +kernel
theorem d_M_goOn_279 : decode b_M_goOn 279 = .ok (.getfield 83, 3) := by decide +kernel
theorem d_M_goOn_282 : decode b_M_goOn 282 = .ok (.bipush 20, 2) := by decide +kernel
theorem d_M_goOn_284 : decode b_M_goOn 284 = .ok (.aload_n 0, 1) := by decide +kernel
theorem d_M_goOn_285 : decode b_M_goOn 285 = .ok (.getfield 250, 3) := by decide +kernel
theorem d_M_goOn_288 : decode b_M_goOn 288 = .ok (.imul, 1) := by decide +kernel
theorem d_M_goOn_289 : decode b_M_goOn 289 = .ok (.aload_n 0, 1) := by decide +kernel
theorem d_M_goOn_290 : decode b_M_goOn 290 = .ok (.getfield 21, 3) := by decide +kernel
theorem d_M_goOn_293 : decode b_M_goOn 293 = .ok (.iload_n 1, 1) := by decide +kernel
theorem d_M_goOn_294 : decode b_M_goOn 294 = .ok (.iaload, 1) := by decide +kernel
theorem d_M_goOn_295 : decode b_M_goOn 295 = .ok (.iadd, 1) := by decide +kernel
theorem d_M_goOn_296 : decode b_M_goOn 296 = .ok (.iaload, 1) := by decide +kernel
theorem d_M_goOn_297 : decode b_M_goOn 297 = .ok (.istore 4, 2) := by decide +kernel
theorem d_M_goOn_299 : decode b_M_goOn 299 = .ok (.aload_n 0, 1) := by decide +kernel
theorem d_M_goOn_300 : decode b_M_goOn 300 = .ok (.aload_n 0, 1) := by decide +kernel
theorem d_M_goOn_301 : decode b_M_goOn 301 = .ok (.getfield 74, 3) := by decide +kernel
theorem d_M_goOn_304 : decode b_M_goOn 304 = .ok (.iload 4, 2) := by decide +kernel
theorem d_M_goOn_306 : decode b_M_goOn 306 = .ok (.iaload, 1) := by decide +kernel
theorem d_M_goOn_307 : decode b_M_goOn 307 = .ok (.i2l, 1) := by decide +kernel
theorem d_M_goOn_308 : decode b_M_goOn 308 = .ok (.aload_n 0, 1) := by decide +kernel
theorem d_M_goOn_309 : decode b_M_goOn 309 = .ok (.getfield 77, 3) := by decide +kernel
theorem d_M_goOn_312 : decode b_M_goOn 312 = .ok (.iload 4, 2) := by decide +kernel
theorem d_M_goOn_314 : decode b_M_goOn 314 = .ok (.iaload, 1) := by decide +kernel
theorem d_M_goOn_315 : decode b_M_goOn 315 = .ok (.i2l, 1) := by decide +kernel
theorem d_M_goOn_316 : decode b_M_goOn 316 = .ok (.iload 4, 2) := by decide +kernel
theorem d_M_goOn_318 : decode b_M_goOn 318 = .ok (.invokevirtual 262, 3) := by decide +kernel
theorem d_M_goOn_321 : decode b_M_goOn 321 = .ok (.goto 218, 3) := by decide +kernel
theorem d_M_goOn_324 : decode b_M_goOn 324 = .ok (.iload_n 2, 1) := by decide +kernel
theorem d_M_goOn_325 : decode b_M_goOn 325 = .ok (.iconst 1, 1) := by decide +kernel
theorem d_M_goOn_326 : decode b_M_goOn 326 = .ok (.if_icmp .ne 13, 3) := by decide +kernel
theorem d_M_goOn_329 : decode b_M_goOn 329 = .ok (.aload_n 0, 1) := by decide +kernel
theorem d_M_goOn_330 : decode b_M_goOn 330 = .ok (.dup, 1) := by decide +kernel
theorem d_M_goOn_331 : decode b_M_goOn 331 = .ok (.getfield 225, 3) := by decide +kernel
theorem d_M_goOn_334 : decode b_M_goOn 334 = .ok (.iconst 1, 1) := by decide +kernel
theorem d_M_goOn_335 : decode b_M_goOn 335 = .ok (.isub, 1) := by decide +kernel
theorem d_M_goOn_336 : decode b_M_goOn 336 = .ok (.putfield 225, 3) := by decide +kernel
theorem d_M_goOn_339 : decode b_M_goOn 339 = .ok (.iload_n 2, 1) := by decide +kernel
theorem d_M_goOn_340 : decode b_M_goOn 340 = .ok (.iconst 1, 1) := by decide +kernel
theorem d_M_goOn_341 : decode b_M_goOn 341 = .ok (.if_icmp .ne 24, 3) := by decide +kernel
theorem d_M_goOn_344 : decode b_M_goOn 344 = .ok (.aload_n 0, 1) := by decide +kernel
theorem d_M_goOn_345 : decode b_M_goOn 345 = .ok (.getfield 86, 3) := by decide +kernel
theorem d_M_goOn_348 : decode b_M_goOn 348 = .ok (.aload_n 0, 1) := by decide +kernel
theorem d_M_goOn_349 : decode b_M_goOn 349 = .ok (.getfield 225, 3) := by decide +kernel
theorem d_M_goOn_352 : decode b_M_goOn 352 = .ok (.laload, 1) := by decide +kernel
theorem d_M_goOn_353 : decode b_M_goOn 353 = .ok (.lconst 0, 1) := by decide +kernel
theorem d_M_goOn_354 : decode b_M_goOn 354 = .ok (.lcmp, 1) := by decide +kernel
theorem d_M_goOn_355 : decode b_M_goOn 355 = .ok (.ifCond .ne 10, 3) := by decide +kernel
theorem d_M_goOn_358 : decode b_M_goOn 358 = .ok (.aload_n 0, 1) := by decide +kernel
theorem d_M_goOn_359 : decode b_M_goOn 359 = .ok (.getfield 30, 3) := by decide +kernel
theorem d_M_goOn_362 : decode b_M_goOn 362 = .ok (.iload_n 3, 1) := by decide +kernel
theorem d_M_goOn_363 : decode b_M_goOn 363 = .ok (.iaload, 1) := by decide +kernel
theorem d_M_goOn_364 : decode b_M_goOn 364 = .ok (.istore_n 3, 1) := by decide +kernel
theorem d_M_goOn_365 : decode b_M_goOn 365 = .ok (.iload_n 2, 1) := by decide +kernel
theorem d_M_goOn_366 : decode b_M_goOn 366 = .ok (.iconst 2, 1) := by decide +kernel
theorem d_M_goOn_367 : decode b_M_goOn 367 = .ok (.if_icmp .ge 11, 3) := by decide +kernel
theorem d_M_goOn_370 : decode b_M_goOn 370 = .ok (.aload_n 0, 1) := by decide +kernel
theorem d_M_goOn_371 : decode b_M_goOn 371 = .ok (.iload_n 3, 1) := by decide +kernel
theorem d_M_goOn_372 : decode b_M_goOn 372 = .ok (.invokevirtual 259, 3) := by decide +kernel
theorem d_M_goOn_375 : decode b_M_goOn 375 = .ok (.goto 164, 3) := by decide +kernel
theorem d_M_goOn_378 : decode b_M_goOn 378 = .ok (.aload_n 0, 1) := by decide +kernel
theorem d_M_goOn_379 : decode b_M_goOn 379 = .ok (.invokevirtual 266, 3) := by decide +kernel
theorem d_M_goOn_382 : decode b_M_goOn 382 = .ok (.goto 157, 3) := by decide +kernel
theorem d_M_goOn_385 : decode b_M_goOn 385 = .ok (.iload_n 2, 1) := by decide +kernel
theorem d_M_goOn_386 : decode b_M_goOn 386 = .ok (.iconst 1, 1) := by decide +kernel
theorem d_M_goOn_387 : decode b_M_goOn 387 = .ok (.if_icmp .ne 27, 3) := by decide +kernel
theorem d_M_goOn_390 : decode b_M_goOn 390 = .ok (.aload_n 0, 1) := by decide +kernel
theorem d_M_goOn_391 : decode b_M_goOn 391 = .ok (.dup, 1) := by decide +kernel
theorem d_M_goOn_392 : decode b_M_goOn 392 = .ok (.getfield 225, 3) := by decide +kernel
theorem d_M_goOn_395 : decode b_M_goOn 395 = .ok (.iconst 1, 1) := by decide +kernel
theorem d_M_goOn_396 : decode b_M_goOn 396 = .ok (.isub, 1) := by decide +kernel
theorem d_M_goOn_397 : decode b_M_goOn 397 = .ok (.putfield 225, 3) := by decide +kernel
theorem d_M_goOn_400 : decode b_M_goOn 400 = .ok (.aload_n 0, 1) := by decide +kernel
theorem d_M_goOn_401 : decode b_M_goOn 401 = .ok (.aload_n 0, 1) := by decide +kernel
theorem d_M_goOn_402 : decode b_M_goOn 402 = .ok (.getfield 21, 3) := by decide +kernel
theorem d_M_goOn_405 : decode b_M_goOn 405 = .ok (.iload_n 1, 1) := by decide +kernel
theorem d_M_goOn_406 : decode b_M_goOn 406 = .ok (.iaload, 1) := by decide +kernel
theorem d_M_goOn_407 : decode b_M_goOn 407 = .ok (.aload_n 0, 1) := by decide +kernel
theorem d_M_goOn_408 : decode b_M_goOn 408 = .ok (.getfield 225, 3) := by decide +kernel
theorem d_M_goOn_411 : decode b_M_goOn 411 = .ok (.invokevirtual 256, 3) := by decide +kernel
theorem d_M_goOn_414 : decode b_M_goOn 414 = .ok (.iload_n 2, 1) := by decide +kernel
theorem d_M_goOn_415 : decode b_M_goOn 415 = .ok (.iconst 2, 1) := by decide +kernel
theorem d_M_goOn_416 : decode b_M_goOn 416 = .ok (.if_icmp .ge 11, 3) := by decide +kernel
theorem d_M_goOn_419 : decode b_M_goOn 419 = .ok (.aload_n 0, 1) := by decide +kernel
theorem d_M_goOn_420 : decode b_M_goOn 420 = .ok (.iload_n 3, 1) := by decide +kernel
theorem d_M_goOn_421 : decode b_M_goOn 421 = .ok (.invokevirtual 259, 3) := by decide +kernel
theorem d_M_goOn_424 : decode b_M_goOn 424 = .ok (.goto 115, 3) := by decide +kernel
theorem d_M_goOn_427 : decode b_M_goOn 427 = .ok (.aload_n 0, 1) := by decide +kernel
theorem d_M_goOn_428 : decode b_M_goOn 428 = .ok (.invokevirtual 266, 3) := by decide +kernel
theorem d_M_goOn_431 : decode b_M_goOn 431 = .ok (.goto 108, 3) := by decide +kernel
theorem d_M_goOn_434 : decode b_M_goOn 434 = .ok (.iload_n 2, 1) := by decide +kernel
theorem d_M_goOn_435 : decode b_M_goOn 435 = .ok (.ifCond .ne 21, 3) := by decide +kernel
theorem d_M_goOn_438 : decode b_M_goOn 438 = .ok (.aload_n 0, 1) := by decide +kernel
theorem d_M_goOn_439 : decode b_M_goOn 439 = .ok (.dup, 1) := by decide +kernel
theorem d_M_goOn_440 : decode b_M_goOn 440 = .ok (.getfield 233, 3) := by decide +kernel
theorem d_M_goOn_443 : decode b_M_goOn 443 = .ok (.iconst 1, 1) := by decide +kernel
theorem d_M_goOn_444 : decode b_M_goOn 444 = .ok (.isub, 1) := by decide +kernel
theorem d_M_goOn_445 : decode b_M_goOn 445 = .ok (.putfield 233, 3) := by decide +kernel
theorem d_M_goOn_448 : decode b_M_goOn 448 = .ok (.aload_n 0, 1) := by decide +kernel
theorem d_M_goOn_449 : decode b_M_goOn 449 = .ok (.iload_n 3, 1) := by decide +kernel
theorem d_M_goOn_450 : decode b_M_goOn 450 = .ok (.invokevirtual 259, 3) := by decide +kernel
theorem d_M_goOn_453 : decode b_M_goOn 453 = .ok (.goto 86, 3) := by decide +kernel
theorem d_M_goOn_456 : decode b_M_goOn 456 = .ok (.aload_n 0, 1) := by decide +kernel
theorem d_M_goOn_457 : decode b_M_goOn 457 = .ok (.invokevirtual 266, 3) := by decide +kernel
theorem d_M_goOn_460 : decode b_M_goOn 460 = .ok (.goto 79, 3) := by decide +kernel
theorem d_M_goOn_463 : decode b_M_goOn 463 = .ok (.iload_n 2, 1) := by decide +kernel
theorem d_M_goOn_464 : decode b_M_goOn 464 = .ok (.aload_n 0, 1) := by decide +kernel
theorem d_M_goOn_465 : decode b_M_goOn 465 = .ok (.getfield 27, 3) := by decide +kernel
theorem d_M_goOn_468 : decode b_M_goOn 468 = .ok (.iload_n 1, 1) := by decide +kernel
theorem d_M_goOn_469 : decode b_M_goOn 469 = .ok (.iaload, 1) := by decide +kernel
theorem d_M_goOn_470 : decode b_M_goOn 470 = .ok (.if_icmp .ge 11, 3) := by decide +kernel
theorem d_M_goOn_473 : decode b_M_goOn 473 = .ok (.aload_n 0, 1) := by decide +kernel
theorem d_M_goOn_474 : decode b_M_goOn 474 = .ok (.iload_n 3, 1) := by decide +kernel
theorem d_M_goOn_475 : decode b_M_goOn 475 = .ok (.invokevirtual 259, 3) := by decide +kernel
theorem d_M_goOn_478 : decode b_M_goOn 478 = .ok (.goto 61, 3) := by decide +kernel
theorem d_M_goOn_481 : decode b_M_goOn 481 = .ok (.iload_n 2, 1) := by decide +kernel
theorem d_M_goOn_482 : decode b_M_goOn 482 = .ok (.aload_n 0, 1) := by decide +kernel
theorem d_M_goOn_483 : decode b_M_goOn 483 = .ok (.getfield 27, 3) := by decide +kernel
theorem d_M_goOn_486 : decode b_M_goOn 486 = .ok (.iload_n 1, 1) := by decide +kernel
theorem d_M_goOn_487 : decode b_M_goOn 487 = .ok (.iaload, 1) := by decide +kernel
theorem d_M_goOn_488 : decode b_M_goOn 488 = .ok (.if_icmp .ne 11, 3) := by decide +kernel
theorem d_M_goOn_491 : decode b_M_goOn 491 = .ok (.aload_n 0, 1) := by decide +kernel
theorem d_M_goOn_492 : decode b_M_goOn 492 = .ok (.iload_n 1, 1) := by decide +kernel
theorem d_M_goOn_493 : decode b_M_goOn 493 = .ok (.invokevirtual 269, 3) := by decide +kernel
theorem d_M_goOn_496 : decode b_M_goOn 496 = .ok (.goto 43, 3) := by decide +kernel
theorem d_M_goOn_499 : decode b_M_goOn 499 = .ok (.aload_n 0, 1) := by decide +kernel
theorem d_M_goOn_500 : decode b_M_goOn 500 = .ok (.dup, 1) := by decide +kernel
theorem d_M_goOn_501 : decode b_M_goOn 501 = .ok (.getfield 250, 3) := by decide +kernel
theorem d_M_goOn_504 : decode b_M_goOn 504 = .ok (.iconst 1, 1) := by decide +kernel
theorem d_M_goOn_505 : decode b_M_goOn 505 = .ok (.isub, 1) := by decide +kernel
theorem d_M_goOn_506 : decode b_M_goOn 506 = .ok (.putfield 250, 3) := by decide +kernel
theorem d_M_goOn_509 : decode b_M_goOn 509 = .ok (.aload_n 0, 1) := by decide +kernel
theorem d_M_goOn_510 : decode b_M_goOn 510 = .ok (.invokevirtual 266, 3) := by decide +kernel
theorem d_M_goOn_513 : decode b_M_goOn 513 = .ok (.goto 26, 3) := by decide +kernel
theorem d_M_goOn_516 : decode b_M_goOn 516 = .ok (.iload_n 2, 1) := by decide +kernel
theorem d_M_goOn_517 : decode b_M_goOn 517 = .ok (.aload_n 0, 1) := by decide +kernel
theorem d_M_goOn_518 : decode b_M_goOn 518 = .ok (.getfield 27, 3) := by decide +kernel
theorem d_M_goOn_521 : decode b_M_goOn 521 = .ok (.iload_n 1, 1) := by decide +kernel
theorem d_M_goOn_522 : decode b_M_goOn 522 = .ok (.iaload, 1) := by decide +kernel
theorem d_M_goOn_523 : decode b_M_goOn 523 = .ok (.if_icmp .ge 11, 3) := by decide +kernel
theorem d_M_goOn_526 : decode b_M_goOn 526 = .ok (.aload_n 0, 1) := by decide +kernel
theorem d_M_goOn_527 : decode b_M_goOn 527 = .ok (.iload_n 3, 1) := by decide +kernel
theorem d_M_goOn_528 : decode b_M_goOn 528 = .ok (.invokevirtual 259, 3) := by decide +kernel
theorem d_M_goOn_531 : decode b_M_goOn 531 = .ok (.goto 8, 3) := by decide +kernel
theorem d_M_goOn_534 : decode b_M_goOn 534 = .ok (.aload_n 0, 1) := by decide +kernel
theorem d_M_goOn_535 : decode b_M_goOn 535 = .ok (.iload_n 1, 1) := by decide +kernel
theorem d_M_goOn_536 : decode b_M_goOn 536 = .ok (.invokevirtual 272, 3) := by decide +kernel
theorem d_M_goOn_539 : decode b_M_goOn 539 = .ok (.return_, 1) := by decide +kernel
theorem d_M_finish_0 : decode b_M_finish 0 = .ok (.aload_n 0, 1) := by decide +kernel
theorem d_M_finish_1 : decode b_M_finish 1 = .ok (.getfield 17, 3) := by decide +kernel
theorem d_M_finish_4 : decode b_M_finish 4 = .ok (.iload_n 1, 1) := by decide +kernel
theorem d_M_finish_5 : decode b_M_finish 5 = .ok (.iaload, 1) := by decide +kernel
theorem d_M_finish_6 : decode b_M_finish 6 = .ok (.iconst 2, 1) := by decide +kernel
theorem d_M_finish_7 : decode b_M_finish 7 = .ok (.if_icmp .ne 11, 3) := by decide +kernel
theorem d_M_finish_10 : decode b_M_finish 10 = .ok (.aload_n 0, 1) := by decide +kernel
theorem d_M_finish_11 : decode b_M_finish 11 = .ok (.iload_n 1, 1) := by decide +kernel
theorem d_M_finish_12 : decode b_M_finish 12 = .ok (.invokevirtual 275, 3) := by decide +kernel
theorem d_M_finish_15 : decode b_M_finish 15 = .ok (.goto 114, 3) := by decide +kernel
theorem d_M_finish_18 : decode b_M_finish 18 = .ok (.aload_n 0, 1) := by decide +kernel
theorem d_M_finish_19 : decode b_M_finish 19 = .ok (.getfield 17, 3) := by decide +kernel
theorem d_M_finish_22 : decode b_M_finish 22 = .ok (.iload_n 1, 1) := by decide +kernel
theorem d_M_finish_23 : decode b_M_finish 23 = .ok (.iaload, 1) := by decide +kernel
theorem d_M_finish_24 : decode b_M_finish 24 = .ok (.bipush 7, 2) := by decide +kernel
theorem d_M_finish_26 : decode b_M_finish 26 = .ok (.if_icmp .eq 14, 3) := by decide +kernel
theorem d_M_finish_29 : decode b_M_finish 29 = .ok (.aload_n 0, 1) := by decide +kernel
theorem d_M_finish_30 : decode b_M_finish 30 = .ok (.getfield 17, 3) := by decide +kernel
theorem d_M_finish_33 : decode b_M_finish 33 = .ok (.iload_n 1, 1) := by decide +kernel
theorem d_M_finish_34 : decode b_M_finish 34 = .ok (.iaload, 1) := by decide +kernel
theorem d_M_finish_35 : decode b_M_finish 35 = .ok (.bipush 8, 2) := by decide +kernel
theorem d_M_finish_37 : decode b_M_finish 37 = .ok (.if_icmp .ne 11, 3) := by decide +kernel
theorem d_M_finish_40 : decode b_M_finish 40 = .ok (.aload_n 0, 1) := by decide +kernel
theorem d_M_finish_41 : decode b_M_finish 41 = .ok (.iload_n 1, 1) := by decide +kernel
theorem d_M_finish_42 : decode b_M_finish 42 = .ok (.invokevirtual 278, 3) := by decide +kernel
theorem d_M_finish_45 : decode b_M_finish 45 = .ok (.goto 84, 3) := by decide +kernel
theorem d_M_finish_48 : decode b_M_finish 48 = .ok (.aload_n 0, 1) := by decide +kernel
theorem d_M_finish_49 : decode b_M_finish 49 = .ok (.dup, 1) := by decide +kernel
theorem d_M_finish_50 : decode b_M_finish 50 = .ok (.getfield 225, 3) := by decide +kernel
theorem d_M_finish_53 : decode b_M_finish 53 = .ok (.aload_n 0, 1) := by decide +kernel
theorem d_M_finish_54 : decode b_M_finish 54 = .ok (.getfield 27, 3) := by decide +kernel
theorem d_M_finish_57 : decode b_M_finish 57 = .ok (.iload_n 1, 1) := by decide +kernel
theorem d_M_finish_58 : decode b_M_finish 58 = .ok (.iaload, 1) := by decide +kernel
theorem d_M_finish_59 : decode b_M_finish 59 = .ok (.isub, 1) := by decide +kernel
theorem d_M_finish_60 : decode b_M_finish 60 = .ok (.putfield 225, 3) := by decide +kernel
theorem d_M_finish_63 : decode b_M_finish 63 = .ok (.aload_n 0, 1) := by decide +kernel
theorem d_M_finish_64 : decode b_M_finish 64 = .ok (.getfield 86, 3) := by decide +kernel
theorem d_M_finish_67 : decode b_M_finish 67 = .ok (.aload_n 0, 1) := by decide +kernel
theorem d_M_finish_68 : decode b_M_finish 68 = .ok (.getfield 225, 3) := by decide +kernel
theorem d_M_finish_71 : decode b_M_finish 71 = .ok (.laload, 1) := by decide +kernel
theorem d_M_finish_72 : decode b_M_finish 72 = .ok (.lstore_n 2, 1) := by decide +kernel
theorem d_M_finish_73 : decode b_M_finish 73 = .ok (.aload_n 0, 1) := by decide +kernel
theorem d_M_finish_74 : decode b_M_finish 74 = .ok (.getfield 27, 3) := by decide +kernel
theorem d_M_finish_77 : decode b_M_finish 77 = .ok (.iload_n 1, 1) := by decide +kernel
theorem d_M_finish_78 : decode b_M_finish 78 = .ok (.iaload, 1) := by decide +kernel
theorem d_M_finish_79 : decode b_M_finish 79 = .ok (.iconst 2, 1) := by decide +kernel
theorem d_M_finish_80 : decode b_M_finish 80 = .ok (.if_icmp .ne 17, 3) := by decide +kernel
theorem d_M_finish_83 : decode b_M_finish 83 = .ok (.aload_n 0, 1) := by decide +kernel
theorem d_M_finish_84 : decode b_M_finish 84 = .ok (.getfield 86, 3) := by decide +kernel
theorem d_M_finish_87 : decode b_M_finish 87 = .ok (.aload_n 0, 1) := by decide +kernel
theorem d_M_finish_88 : decode b_M_finish 88 = .ok (.getfield 225, 3) := by decide +kernel
theorem d_M_finish_91 : decode b_M_finish 91 = .ok (.iconst 1, 1) := by decide +kernel
theorem d_M_finish_92 : decode b_M_finish 92 = .ok (.iadd, 1) := by decide +kernel
theorem d_M_finish_93 : decode b_M_finish 93 = .ok (.laload, 1) := by decide +kernel
theorem d_M_finish_94 : decode b_M_finish 94 = .ok (.goto 4, 3) := by decide +kernel
theorem d_M_finish_97 : decode b_M_finish 97 = .ok (.lconst 1, 1) := by decide +kernel
theorem d_M_finish_98 : decode b_M_finish 98 = .ok (.lstore 4, 2) := by decide +kernel
theorem d_M_finish_100 : decode b_M_finish 100 = .ok (.lload_n 2, 1) := by decide +kernel
theorem d_M_finish_101 : decode b_M_finish 101 = .ok (.lconst 0, 1) := by decide +kernel
theorem d_M_finish_102 : decode b_M_finish 102 = .ok (.lcmp, 1) := by decide +kernel
theorem d_M_finish_103 : decode b_M_finish 103 = .ok (.ifCond .lt 10, 3) := by decide +kernel
theorem d_M_finish_106 : decode b_M_finish 106 = .ok (.lload 4, 2) := by decide +kernel
theorem d_M_finish_108 : decode b_M_finish 108 = .ok (.lconst 0, 1) := by decide +kernel
theorem d_M_finish_109 : decode b_M_finish 109 = .ok (.lcmp, 1) := by decide +kernel
theorem d_M_finish_110 : decode b_M_finish 110 = .ok (.ifCond .ge 11, 3) := by decide +kernel
theorem d_M_finish_113 : decode b_M_finish 113 = .ok (.aload_n 0, 1) := by decide +kernel
theorem d_M_finish_114 : decode b_M_finish 114 = .ok (.iconst 2, 1) := by decide +kernel
theorem d_M_finish_115 : decode b_M_finish 115 = .ok (.putfield 222, 3) := by decide +kernel
theorem d_M_finish_118 : decode b_M_finish 118 = .ok (.goto 11, 3) := by decide +kernel
theorem d_M_finish_121 : decode b_M_finish 121 = .ok (.aload_n 0, 1) := by decide +kernel
theorem d_M_finish_122 : decode b_M_finish 122 = .ok (.lload_n 2, 1) := by decide +kernel
theorem d_M_finish_123 : decode b_M_finish 123 = .ok (.lload 4, 2) := by decide +kernel
theorem d_M_finish_125 : decode b_M_finish 125 = .ok (.iconst (-1), 1) := by decide +kernel
theorem d_M_finish_126 : decode b_M_finish 126 = .ok (.invokevirtual 262, 3) := by decide +kernel
theorem d_M_finish_129 : decode b_M_finish 129 = .ok (.return_, 1) := by decide +kernel
theorem kl_M_231 : Cond.constantLong "SoleArraysModel" 231 40 ∈ zTb := zt5 117 (by decide +kernel) rfl
section MRN
variable {G : zG} {l : Launch} {n o v m dp : Nat} {σ : zS} {S : mS} {A : mA} {L : mL} {rn : Int64}
theorem c_M_pass (hn : 113 ≤ n) (h19 : S 19 = nI (o + 1)) : MetZ G l y_M_pass b_M_pass 1 none [] 0 0 0 [.ref 85] n (mOv S A L rn σ) (fun o' n' σ' => o' = .returned none ∧ n' = n ∧ σ' = mOv (upd S 19 (nI o)) A L rn σ) := by
  refine MetZ.of (by decide) (Nat.le_of_ble_eq_true rfl) (fun K hK hR hpo hmc hms C => ?_)
  refine z_aload_n C 1 d_M_pass_0 rfl rfl ?_
  refine z_dup C 2 d_M_pass_1 rfl rfl ?_
  refine zm_get C 5 f_M_129 d_M_pass_2 rfl hn rfl ?_
  refine z_iconst C 6 d_M_pass_5 rfl 1 (by decide) ?_
  refine z_isub C 7 d_M_pass_6 rfl ?_
  refine zm_puti C 10 p_M_129 d_M_pass_7 rfl hn (by decide) (rfl) rfl rfl ?_
  exact z_vret C rfl d_M_pass_10 (by rw [hpo]; exact ⟨rfl, rfl, by rw [h19, nI_p1]⟩) (by rw [hmc]; omega) (by rw [hms]; omega)
theorem c_M_give (hn : 113 ≤ n) (h19 : S 19 = nI (o + 1)) (h36 : S 36 = nI v) (hv : v < 400) (x : Int64) (a : Int32) : MetZ G l y_M_give b_M_give 4 none [] 0 0 0 [.ref 85, .long x, .int a] n (mOv S A L rn σ) (fun o' n' σ' => o' = .returned none ∧ n' = n ∧ σ' = mOv (upd (upd S 36 (nI (v + 1))) 19 (nI o)) (va_up A 110 (upd (A 110) v a)) (va_up L 109 (vp_updL (L 109) v x)) rn σ) := by
  refine MetZ.of (by decide) (Nat.le_of_ble_eq_true rfl) (fun K hK hR hpo hmc hms C => ?_)
  refine z_aload_n C 1 d_M_give_0 rfl rfl ?_
  refine zm_get C 4 f_M_86 d_M_give_1 rfl hn rfl ?_
  refine z_aload_n C 5 d_M_give_4 rfl rfl ?_
  refine zm_get C 8 f_M_225 d_M_give_5 rfl hn rfl ?_
  refine z_lload_n C 9 d_M_give_8 rfl rfl ?_
  refine zm_last C 10 v d_M_give_9 rfl hn (by decide) (by decide) (by decide) h36 (by show v < 400; omega) (by decide) ?_
  refine z_aload_n C 11 d_M_give_10 rfl rfl ?_
  refine zm_get C 14 f_M_89 d_M_give_11 rfl hn rfl ?_
  refine z_aload_n C 15 d_M_give_14 rfl rfl ?_
  refine zm_get C 18 f_M_225 d_M_give_15 rfl hn rfl ?_
  refine z_iload_n C 19 d_M_give_18 rfl rfl ?_
  refine zm_iast C 20 v d_M_give_19 rfl hn (by decide) (by decide) (by decide) h36 (by show v < 400; omega) (by decide) ?_
  refine z_aload_n C 21 d_M_give_20 rfl rfl ?_
  refine z_dup C 22 d_M_give_21 rfl rfl ?_
  refine zm_get C 25 f_M_225 d_M_give_22 rfl hn rfl ?_
  refine z_iconst C 26 d_M_give_25 rfl 1 (by decide) ?_
  refine z_iadd C 27 d_M_give_26 rfl ?_
  refine zm_puti C 30 p_M_225 d_M_give_27 rfl hn (by decide) (rfl) rfl rfl ?_
  refine z_aload_n C 31 d_M_give_30 rfl rfl ?_
  refine z_dup C 32 d_M_give_31 rfl rfl ?_
  refine zm_get C 35 f_M_129 d_M_give_32 rfl hn rfl ?_
  refine z_iconst C 36 d_M_give_35 rfl 1 (by decide) ?_
  refine z_isub C 37 d_M_give_36 rfl ?_
  refine zm_puti C 40 p_M_129 d_M_give_37 rfl hn (by decide) (rfl) rfl rfl ?_
  exact z_vret C rfl d_M_give_40 (by rw [hpo]; exact ⟨rfl, rfl, by rw [h36, nI_1, show (upd S 36 (nI (v + 1))) 19 = nI (o + 1) from h19, nI_p1]⟩) (by rw [hmc]; omega) (by rw [hms]; omega)
def rStart (o st x : Nat) (S : mS) (A : mA) (L : mL) (rn : Int64) (σ : zS) : zS := if st = 400 then mOv (upd S 44 5) A L rn σ else mOv (upd (upd S 39 (nI (st + 1))) 19 (nI (o + 1))) (mPu A o (nI x)) L rn σ
theorem c_M_start {st x : Nat} (hn : 113 ≤ n) (h19 : S 19 = nI o) (ho : o < 80) (h39 : S 39 = nI st) (hst : st ≤ 400) : MetZ G l y_M_start b_M_start 2 none [] 1 0 0 [.ref 85, .int (nI x)] n (mOv S A L rn σ) (fun o' n' σ' => o' = .returned none ∧ n' = n ∧ σ' = rStart o st x S A L rn σ) := by
  unfold rStart
  refine MetZ.of (by decide) (Nat.le_of_ble_eq_true rfl) (fun K hK hR hpo hmc hms C => ?_)
  refine z_aload_n C 1 d_M_start_0 rfl rfl ?_
  refine zm_get C 4 f_M_219 d_M_start_1 rfl hn rfl ?_
  refine z_sipush C 7 d_M_start_4 rfl 400 (by decide) ?_
  by_cases q : st = 400
  · rw [if_pos q] at hpo
    refine z_icmp_ne C 10 16 d_M_start_7 rfl (by decide) (fun h9 => absurd (show S 39 = 400 by rw [h39, q]; rfl) h9) (fun _ => ?_)
    refine z_aload_n C 11 d_M_start_10 rfl rfl ?_
    refine z_iconst C 12 d_M_start_11 rfl 5 (by decide) ?_
    refine zm_puti C 15 p_M_222 d_M_start_12 rfl hn (by decide) (rfl) rfl rfl ?_
    exact z_vret C rfl d_M_start_15 (by rw [hpo]; exact ⟨rfl, rfl, rfl⟩) (by rw [hmc]; omega) (by rw [hms]; omega)
  · rw [if_neg q] at hpo
    refine z_icmp_ne C 10 16 d_M_start_7 rfl (by decide) (fun _ => ?_) (fun h9 => absurd (show nI st = nI 400 from h39.symm.trans h9) (fun w => q (nI_inj (by omega) (by omega) w)))
    refine z_aload_n C 17 d_M_start_16 rfl rfl ?_
    refine z_dup C 18 d_M_start_17 rfl rfl ?_
    refine zm_get C 21 f_M_219 d_M_start_18 rfl hn rfl ?_
    refine z_iconst C 22 d_M_start_21 rfl 1 (by decide) ?_
    refine z_iadd C 23 d_M_start_22 rfl ?_
    refine zm_puti C 26 p_M_219 d_M_start_23 rfl hn (by decide) (rfl) rfl rfl ?_
    refine z_aload_n C 27 d_M_start_26 rfl rfl ?_
    refine z_iload_n C 28 d_M_start_27 rfl rfl ?_
    rw [h39, nI_1]
    refine z_call C 31 (c_M_push (op := o) hn (show upd S 39 (nI (st + 1)) 19 = nI o from h19) ho (nI x)) w_M_push ini_M d_M_start_28 rfl (z_goV (As := [.int (nI x)]) C l_M_144 w_M_push d_M_start_28 (by omega) rfl rfl rfl) (Nat.le_of_ble_eq_true rfl) (by rw [hR]; simp only [zRm]; omega) (by rw [hR]; simp only [zRm]; omega) (by rw [hR]; simp only [zRm]; omega) (by rw [hR]; simp only [zRm]; omega) (fun v n' σ' hv => ?_) (fun x n' σ' hv => ?_)
    rotate_left
    · cases hv.1
    obtain ⟨e0, e1, rfl⟩ := hv
    cases e0
    obtain rfl : n = n' := e1.symm
    exact z_vret C rfl d_M_start_31 (by rw [hpo]; exact ⟨rfl, rfl, rfl⟩) (by rw [hmc]; omega) (by rw [hms]; omega)
theorem nI_20 (dp v : Nat) : (20 : Int32) * nI dp + nI v = nI (20 * dp + v) := by
  rw [show (20 : Int32) * nI dp = nI (20 * dp) from nI_mul 20 dp, nI_add]
theorem nI_40 (dp v : Nat) : (40 : Int32) * nI dp + nI v = nI (40 * dp + v) := by
  rw [show (40 : Int32) * nI dp = nI (40 * dp) from nI_mul 40 dp, nI_add]
theorem nI_4 (dp v : Nat) : (4 : Int32) * nI dp + nI v = nI (4 * dp + v) := by
  rw [show (4 : Int32) * nI dp = nI (4 * dp) from nI_mul 4 dp, nI_add]
theorem c_M_hold {at_ : Nat} (hn : 113 ≤ n) (h33 : S 33 = nI dp) (hdp : dp < 8) (hv : v < 20) (hat : at_ < 400) : MetZ G l y_M_hold b_M_hold 3 none [] 0 0 0 [.ref 85, .int (nI v), .int (nI at_)] n (mOv S A L rn σ) (fun o' n' σ' => o' = .returned none ∧ n' = n ∧ σ' = mOv S (va_up A 108 (upd (A 108) (20 * dp + v) (A 110 at_))) (va_up L 107 (vp_updL (L 107) (20 * dp + v) (L 109 at_))) rn σ) := by
  refine MetZ.of (by decide) (Nat.le_of_ble_eq_true rfl) (fun K hK hR hpo hmc hms C => ?_)
  refine z_aload_n C 1 d_M_hold_0 rfl rfl ?_
  refine zm_get C 4 f_M_80 d_M_hold_1 rfl hn rfl ?_
  refine z_bipush C 6 d_M_hold_4 rfl 20 (by decide) ?_
  refine z_aload_n C 7 d_M_hold_6 rfl rfl ?_
  refine zm_get C 10 f_M_250 d_M_hold_7 rfl hn rfl ?_
  refine z_imul C 11 d_M_hold_10 rfl ?_
  refine z_iload_n C 12 d_M_hold_11 rfl rfl ?_
  refine z_iadd C 13 d_M_hold_12 rfl ?_
  refine z_aload_n C 14 d_M_hold_13 rfl rfl ?_
  refine zm_get C 17 f_M_86 d_M_hold_14 rfl hn rfl ?_
  refine z_iload_n C 18 d_M_hold_17 rfl rfl ?_
  refine zm_lald C 19 at_ d_M_hold_18 rfl hn (by decide) (by decide) (by decide) rfl (by show at_ < 400; omega) (by decide) ?_
  refine zm_last C 20 (20*dp+v) d_M_hold_19 rfl hn (by decide) (by decide) (by decide) (by rw [h33]; exact nI_20 dp v) (by show 20 * dp + v < 160; omega) (by decide) ?_
  refine z_aload_n C 21 d_M_hold_20 rfl rfl ?_
  refine zm_get C 24 f_M_83 d_M_hold_21 rfl hn rfl ?_
  refine z_bipush C 26 d_M_hold_24 rfl 20 (by decide) ?_
  refine z_aload_n C 27 d_M_hold_26 rfl rfl ?_
  refine zm_get C 30 f_M_250 d_M_hold_27 rfl hn rfl ?_
  refine z_imul C 31 d_M_hold_30 rfl ?_
  refine z_iload_n C 32 d_M_hold_31 rfl rfl ?_
  refine z_iadd C 33 d_M_hold_32 rfl ?_
  refine z_aload_n C 34 d_M_hold_33 rfl rfl ?_
  refine zm_get C 37 f_M_89 d_M_hold_34 rfl hn rfl ?_
  refine z_iload_n C 38 d_M_hold_37 rfl rfl ?_
  refine zm_iald C 39 at_ d_M_hold_38 rfl hn (by decide) (by decide) (by decide) rfl (by show at_ < 400; omega) (by decide) ?_
  refine zm_iast C 40 (20*dp+v) d_M_hold_39 rfl hn (by decide) (by decide) (by decide) (by rw [h33]; exact nI_20 dp v) (by show 20 * dp + v < 160; omega) (by decide) ?_
  exact z_vret C rfl d_M_hold_40 (by rw [hpo]; exact ⟨rfl, rfl, rfl⟩) (by rw [hmc]; omega) (by rw [hms]; omega)
theorem va_up_id {α : Type} (f : Nat → α) (i : Nat) : va_up f i (f i) = f := by
  funext j
  by_cases q : j = i
  · rw [q, va_up_self]
  · rw [va_up_ne _ _ q]
/-- p cells of array m, from src -/
def mkC (f : Nat → Int64) (m p : Nat) (src : Nat → Int64) : Nat → Int64 := fun j => if 40 * m ≤ j ∧ j < 40 * m + p then src (j - 40 * m) else f j
theorem mkC_0 (f : Nat → Int64) (m : Nat) (src : Nat → Int64) : mkC f m 0 src = f := by
  funext j
  unfold mkC
  rw [if_neg (by omega)]
theorem mkC_s (f : Nat → Int64) (m p : Nat) (src : Nat → Int64) : vp_updL (mkC f m p src) (40 * m + p) (src p) = mkC f m (p + 1) src := by
  funext j
  unfold vp_updL mkC
  by_cases q : j = 40 * m + p
  · rw [if_pos q, if_pos (by omega), q, Nat.add_sub_cancel_left]
  · rw [if_neg q]
    by_cases q2 : 40 * m ≤ j ∧ j < 40 * m + p
    · rw [if_pos q2, if_pos (by omega)]
    · rw [if_neg q2, if_neg (by omega)]
def rMk (m : Nat) (r c : Int32) (A : mA) : mA := va_up (va_up A 105 (upd (A 105) m r)) 106 (upd (A 106) m c)
theorem c_M_make {p : Nat} {r c : Int64} {fr : Int32} {src : Nat → Int64} (hn : 113 ≤ n) (h32 : S 32 = nI m) (hm : m < 402) (hp : (r * c).toInt32 = nI p) (hp40 : p ≤ 40) (hsrc : (fr < 0 ∧ ∀ j, j < p → src j = 0) ∨ ∃ a, fr = nI a ∧ a < m ∧ ∀ j, j < p → src j = L 104 (40 * a + j)) : MetZ G l y_M_make b_M_make 7 (some .int) [] 0 0 0 [.ref 85, .long r, .long c, .int fr] n (mOv S A L rn σ) (fun o' n' σ' => o' = .returned (some (.int (nI m))) ∧ n' = n ∧ σ' = mOv (upd S 32 (nI (m + 1))) (rMk m r.toInt32 c.toInt32 A) (va_up L 104 (mkC (L 104) m p src)) rn σ) := by
  refine MetZ.of (by decide) (Nat.le_of_ble_eq_true rfl) (fun K hK hR hpo hmc hms C => ?_)
  have loop : ∀ q k, q + k = p → Z G K n (mOv S A (va_up L 104 (mkC (L 104) m k src)) rn σ) 0 0 3 [(6, .int (nI k)), (0, .ref 85), (1, .long r), (3, .long c), (5, .int fr)] [] := fun q => by
    induction q with
    | zero =>
      intro k hk
      obtain rfl : k = p := by omega
      refine z_iload C 5 d_M_make_3 rfl rfl ?_
      refine z_lload_n C 6 d_M_make_5 rfl rfl ?_
      refine z_lload_n C 7 d_M_make_6 rfl rfl ?_
      refine z_lmul C 8 d_M_make_7 rfl ?_
      refine z_l2i C 9 d_M_make_8 rfl ?_
      rw [hp]
      refine z_icmp_ge C 12 55 d_M_make_9 rfl (by decide) (fun _ => ?_) (fun h9 => absurd ((nI_leI (a := k) (b := k) (by omega) (by omega)).mpr (Nat.le_refl _)) h9)
      refine z_aload_n C 56 d_M_make_55 rfl rfl ?_
      refine zm_get C 59 f_M_74 d_M_make_56 rfl hn rfl ?_
      refine z_aload_n C 60 d_M_make_59 rfl rfl ?_
      refine zm_get C 63 f_M_228 d_M_make_60 rfl hn rfl ?_
      refine z_lload_n C 64 d_M_make_63 rfl rfl ?_
      refine z_l2i C 65 d_M_make_64 rfl ?_
      refine zm_iast C 66 m d_M_make_65 rfl hn (by decide) (by decide) (by decide) h32 (by show m < 402; omega) (by decide) ?_
      refine z_aload_n C 67 d_M_make_66 rfl rfl ?_
      refine zm_get C 70 f_M_77 d_M_make_67 rfl hn rfl ?_
      refine z_aload_n C 71 d_M_make_70 rfl rfl ?_
      refine zm_get C 74 f_M_228 d_M_make_71 rfl hn rfl ?_
      refine z_lload_n C 75 d_M_make_74 rfl rfl ?_
      refine z_l2i C 76 d_M_make_75 rfl ?_
      refine zm_iast C 77 m d_M_make_76 rfl hn (by decide) (by decide) (by decide) h32 (by show m < 402; omega) (by decide) ?_
      refine z_aload_n C 78 d_M_make_77 rfl rfl ?_
      refine z_dup C 79 d_M_make_78 rfl rfl ?_
      refine zm_get C 82 f_M_228 d_M_make_79 rfl hn rfl ?_
      refine z_iconst C 83 d_M_make_82 rfl 1 (by decide) ?_
      refine z_iadd C 84 d_M_make_83 rfl ?_
      refine zm_puti C 87 p_M_228 d_M_make_84 rfl hn (by decide) (rfl) rfl rfl ?_
      refine z_aload_n C 88 d_M_make_87 rfl rfl ?_
      refine zm_get C 91 f_M_228 d_M_make_88 rfl hn rfl ?_
      refine z_iconst C 92 d_M_make_91 rfl 1 (by decide) ?_
      refine z_isub C 93 d_M_make_92 rfl ?_
      rw [h32, nI_1]
      rw [show upd S 32 (nI (m + 1)) 32 - 1 = nI m from nI_p1 m]
      exact z_iret C rfl d_M_make_93 (by rw [hpo]; exact ⟨rfl, rfl, rfl⟩) (by rw [hmc]; omega) (by rw [hms]; omega)
    | succ q ih =>
      intro k hk
      refine z_iload C 5 d_M_make_3 rfl rfl ?_
      refine z_lload_n C 6 d_M_make_5 rfl rfl ?_
      refine z_lload_n C 7 d_M_make_6 rfl rfl ?_
      refine z_lmul C 8 d_M_make_7 rfl ?_
      refine z_l2i C 9 d_M_make_8 rfl ?_
      rw [hp]
      refine z_icmp_ge C 12 55 d_M_make_9 rfl (by decide) (fun h9 => absurd h9 (fun w => absurd ((nI_leI (a := p) (b := k) (by omega) (by omega)).mp w) (by omega))) (fun _ => ?_)
      refine z_aload_n C 13 d_M_make_12 rfl rfl ?_
      refine zm_get C 16 f_M_70 d_M_make_13 rfl hn rfl ?_
      refine z_bipush C 18 d_M_make_16 rfl 40 (by decide) ?_
      refine z_aload_n C 19 d_M_make_18 rfl rfl ?_
      refine zm_get C 22 f_M_228 d_M_make_19 rfl hn rfl ?_
      refine z_imul C 23 d_M_make_22 rfl ?_
      refine z_iload C 25 d_M_make_23 rfl rfl ?_
      refine z_iadd C 26 d_M_make_25 rfl ?_
      refine z_iload C 28 d_M_make_26 rfl rfl ?_
      rcases hsrc with ⟨h0, hs⟩ | ⟨a, ha, ham, hs⟩
      · refine z_if_ge C 31 35 d_M_make_28 rfl (by decide) (fun h9 => absurd h9 (Int32.not_le.mpr h0)) (fun _ => ?_)
        refine z_lconst C 32 d_M_make_31 rfl 0 (by decide) ?_
        refine z_goto C 48 d_M_make_32 (by decide) ?_
        refine zm_last C 49 (40 * m + k) d_M_make_48 rfl hn (by decide) (by decide) (by decide) (by rw [h32]; exact nI_40 m k) (by show 40 * m + k < 16080; omega) (by decide) ?_
        rw [va_up_self, va_up2, ← hs k (by omega), mkC_s]
        refine z_iinc C 52 d_M_make_49 rfl (nI (k + 1)) rfl (z_inc k) (by decide) ?_
        refine z_goto C 3 d_M_make_52 (by decide) ?_
        exact ih (k + 1) (by omega)
      · refine z_if_ge C 31 35 d_M_make_28 rfl (by decide) (fun _ => ?_) (fun h9 => absurd (by rw [ha]; exact nI_pos' (by omega)) h9)
        refine z_aload_n C 36 d_M_make_35 rfl rfl ?_
        refine zm_get C 39 f_M_70 d_M_make_36 rfl hn rfl ?_
        refine z_bipush C 41 d_M_make_39 rfl 40 (by decide) ?_
        refine z_iload C 43 d_M_make_41 rfl rfl ?_
        refine z_imul C 44 d_M_make_43 rfl ?_
        refine z_iload C 46 d_M_make_44 rfl rfl ?_
        refine z_iadd C 47 d_M_make_46 rfl ?_
        refine zm_lald C 48 (40 * a + k) d_M_make_47 rfl hn (by decide) (by decide) (by decide) (by rw [ha]; exact nI_40 a k) (by show 40 * a + k < 16080; omega) (by decide) ?_
        refine zm_last C 49 (40 * m + k) d_M_make_48 rfl hn (by decide) (by decide) (by decide) (by rw [h32]; exact nI_40 m k) (by show 40 * m + k < 16080; omega) (by decide) ?_
        have ex : (va_up L 104 (mkC (L 104) m k src)) 104 (40 * a + k) = src k := by
          rw [va_up_self, hs k (by omega)]
          unfold mkC
          rw [if_neg (by omega)]
        rw [ex, va_up_self, va_up2, mkC_s]
        refine z_iinc C 52 d_M_make_49 rfl (nI (k + 1)) rfl (z_inc k) (by decide) ?_
        refine z_goto C 3 d_M_make_52 (by decide) ?_
        exact ih (k + 1) (by omega)
  have e0 : mOv S A L rn σ = mOv S A (va_up L 104 (mkC (L 104) m 0 src)) rn σ := by rw [mkC_0, va_up_id]
  rw [e0]
  refine z_iconst C 1 d_M_make_0 rfl 0 (by decide) ?_
  refine z_istore C 3 d_M_make_1 rfl (by decide) ?_
  exact loop p 0 (by omega)
end MRN
