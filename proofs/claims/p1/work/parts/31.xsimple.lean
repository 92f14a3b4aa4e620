theorem d_S_type_0 : decode b_S_type 0 = .ok (.iload_n 1, 1) := by decide +kernel
theorem d_S_type_1 : decode b_S_type 1 = .ok (.bipush 32, 2) := by decide +kernel
theorem d_S_type_3 : decode b_S_type 3 = .ok (.if_icmp .lt 19, 3) := by decide +kernel
theorem d_S_type_6 : decode b_S_type 6 = .ok (.iload_n 1, 1) := by decide +kernel
theorem d_S_type_7 : decode b_S_type 7 = .ok (.bipush 126, 2) := by decide +kernel
theorem d_S_type_9 : decode b_S_type 9 = .ok (.if_icmp .gt 13, 3) := by decide +kernel
theorem d_S_type_12 : decode b_S_type 12 = .ok (.aload_n 0, 1) := by decide +kernel
theorem d_S_type_13 : decode b_S_type 13 = .ok (.getfield 37, 3) := by decide +kernel
theorem d_S_type_16 : decode b_S_type 16 = .ok (.sipush 150, 3) := by decide +kernel
theorem d_S_type_19 : decode b_S_type 19 = .ok (.if_icmp .lt 5, 3) := by decide +kernel
theorem d_S_type_22 : decode b_S_type 22 = .ok (.iconst 0, 1) := by decide +kernel
theorem d_S_type_23 : decode b_S_type 23 = .ok (.ireturn, 1) := by decide +kernel
theorem d_S_type_24 : decode b_S_type 24 = .ok (.aload_n 0, 1) := by decide +kernel
theorem d_S_type_25 : decode b_S_type 25 = .ok (.dup, 1) := by decide +kernel
theorem d_S_type_26 : decode b_S_type 26 = .ok (.getfield 37, 3) := by decide +kernel
theorem d_S_type_29 : decode b_S_type 29 = .ok (.iconst 1, 1) := by decide +kernel
theorem d_S_type_30 : decode b_S_type 30 = .ok (.iadd, 1) := by decide +kernel
theorem d_S_type_31 : decode b_S_type 31 = .ok (.putfield 37, 3) := by decide +kernel
theorem d_S_type_34 : decode b_S_type 34 = .ok (.iload_n 1, 1) := by decide +kernel
theorem d_S_type_35 : decode b_S_type 35 = .ok (.bipush 32, 2) := by decide +kernel
theorem d_S_type_37 : decode b_S_type 37 = .ok (.if_icmp .eq 23, 3) := by decide +kernel
theorem d_S_type_40 : decode b_S_type 40 = .ok (.aload_n 0, 1) := by decide +kernel
theorem d_S_type_41 : decode b_S_type 41 = .ok (.getfield 9, 3) := by decide +kernel
theorem d_S_type_44 : decode b_S_type 44 = .ok (.aload_n 0, 1) := by decide +kernel
theorem d_S_type_45 : decode b_S_type 45 = .ok (.getfield 41, 3) := by decide +kernel
theorem d_S_type_48 : decode b_S_type 48 = .ok (.iload_n 1, 1) := by decide +kernel
theorem d_S_type_49 : decode b_S_type 49 = .ok (.castore, 1) := by decide +kernel
theorem d_S_type_50 : decode b_S_type 50 = .ok (.aload_n 0, 1) := by decide +kernel
theorem d_S_type_51 : decode b_S_type 51 = .ok (.dup, 1) := by decide +kernel
theorem d_S_type_52 : decode b_S_type 52 = .ok (.getfield 41, 3) := by decide +kernel
theorem d_S_type_55 : decode b_S_type 55 = .ok (.iconst 1, 1) := by decide +kernel
theorem d_S_type_56 : decode b_S_type 56 = .ok (.iadd, 1) := by decide +kernel
theorem d_S_type_57 : decode b_S_type 57 = .ok (.putfield 41, 3) := by decide +kernel
theorem d_S_type_60 : decode b_S_type 60 = .ok (.iconst 1, 1) := by decide +kernel
theorem d_S_type_61 : decode b_S_type 61 = .ok (.ireturn, 1) := by decide +kernel
theorem d_S_place_0 : decode b_S_place 0 = .ok (.aload_n 0, 1) := by decide +kernel
theorem d_S_place_1 : decode b_S_place 1 = .ok (.getfield 16, 3) := by decide +kernel
theorem d_S_place_4 : decode b_S_place 4 = .ok (.getfield 54, 3) := by decide +kernel
theorem d_S_place_7 : decode b_S_place 7 = .ok (.ireturn, 1) := by decide +kernel
theorem d_S_clear_0 : decode b_S_clear 0 = .ok (.aload_n 0, 1) := by decide +kernel
theorem d_S_clear_1 : decode b_S_clear 1 = .ok (.getfield 44, 3) := by decide +kernel
theorem d_S_clear_4 : decode b_S_clear 4 = .ok (.istore_n 1, 1) := by decide +kernel
theorem d_S_clear_5 : decode b_S_clear 5 = .ok (.iconst 0, 1) := by decide +kernel
theorem d_S_clear_6 : decode b_S_clear 6 = .ok (.istore_n 2, 1) := by decide +kernel
theorem d_S_clear_7 : decode b_S_clear 7 = .ok (.iload_n 2, 1) := by decide +kernel
theorem d_S_clear_8 : decode b_S_clear 8 = .ok (.bipush 8, 2) := by decide +kernel
theorem d_S_clear_10 : decode b_S_clear 10 = .ok (.if_icmp .ge 16, 3) := by decide +kernel
theorem d_S_clear_13 : decode b_S_clear 13 = .ok (.aload_n 0, 1) := by decide +kernel
theorem d_S_clear_14 : decode b_S_clear 14 = .ok (.getfield 22, 3) := by decide +kernel
theorem d_S_clear_17 : decode b_S_clear 17 = .ok (.iload_n 2, 1) := by decide +kernel
theorem d_S_clear_18 : decode b_S_clear 18 = .ok (.aconst_null, 1) := by decide +kernel
theorem d_S_clear_19 : decode b_S_clear 19 = .ok (.aastore, 1) := by decide +kernel
theorem d_S_clear_20 : decode b_S_clear 20 = .ok (.iinc 2 1, 3) := by decide +kernel
theorem d_S_clear_23 : decode b_S_clear 23 = .ok (.goto (-16), 3) := by decide +kernel
theorem d_S_clear_26 : decode b_S_clear 26 = .ok (.aload_n 0, 1) := by decide +kernel
theorem d_S_clear_27 : decode b_S_clear 27 = .ok (.iconst 0, 1) := by decide +kernel
theorem d_S_clear_28 : decode b_S_clear 28 = .ok (.putfield 44, 3) := by decide +kernel
theorem d_S_clear_31 : decode b_S_clear 31 = .ok (.iload_n 1, 1) := by decide +kernel
theorem d_S_clear_32 : decode b_S_clear 32 = .ok (.ireturn, 1) := by decide +kernel
theorem d_S_argument_0 : decode b_S_argument 0 = .ok (.iload_n 1, 1) := by decide +kernel
theorem d_S_argument_1 : decode b_S_argument 1 = .ok (.ifCond .lt 8, 3) := by decide +kernel
theorem d_S_argument_4 : decode b_S_argument 4 = .ok (.iload_n 1, 1) := by decide +kernel
theorem d_S_argument_5 : decode b_S_argument 5 = .ok (.iconst 4, 1) := by decide +kernel
theorem d_S_argument_6 : decode b_S_argument 6 = .ok (.if_icmp .lt 5, 3) := by decide +kernel
theorem d_S_argument_9 : decode b_S_argument 9 = .ok (.iconst 0, 1) := by decide +kernel
theorem d_S_argument_10 : decode b_S_argument 10 = .ok (.ireturn, 1) := by decide +kernel
theorem d_S_argument_11 : decode b_S_argument 11 = .ok (.aload_n 0, 1) := by decide +kernel
theorem d_S_argument_12 : decode b_S_argument 12 = .ok (.getfield 26, 3) := by decide +kernel
theorem d_S_argument_15 : decode b_S_argument 15 = .ok (.iload_n 1, 1) := by decide +kernel
theorem d_S_argument_16 : decode b_S_argument 16 = .ok (.lload_n 2, 1) := by decide +kernel
theorem d_S_argument_17 : decode b_S_argument 17 = .ok (.lastore, 1) := by decide +kernel
theorem d_S_argument_18 : decode b_S_argument 18 = .ok (.iconst 1, 1) := by decide +kernel
theorem d_S_argument_19 : decode b_S_argument 19 = .ok (.ireturn, 1) := by decide +kernel
theorem d_S_kind_0 : decode b_S_kind 0 = .ok (.aload_n 0, 1) := by decide +kernel
theorem d_S_kind_1 : decode b_S_kind 1 = .ok (.getfield 47, 3) := by decide +kernel
theorem d_S_kind_4 : decode b_S_kind 4 = .ok (.ireturn, 1) := by decide +kernel
theorem d_S_value_0 : decode b_S_value 0 = .ok (.aload_n 0, 1) := by decide +kernel
theorem d_S_value_1 : decode b_S_value 1 = .ok (.getfield 47, 3) := by decide +kernel
theorem d_S_value_4 : decode b_S_value 4 = .ok (.ifCond .ne 10, 3) := by decide +kernel
theorem d_S_value_7 : decode b_S_value 7 = .ok (.aload_n 0, 1) := by decide +kernel
theorem d_S_value_8 : decode b_S_value 8 = .ok (.getfield 50, 3) := by decide +kernel
theorem d_S_value_11 : decode b_S_value 11 = .ok (.goto 4, 3) := by decide +kernel
theorem d_S_value_14 : decode b_S_value 14 = .ok (.lconst 0, 1) := by decide +kernel
theorem d_S_value_15 : decode b_S_value 15 = .ok (.lreturn, 1) := by decide +kernel
theorem d_S_size_0 : decode b_S_size 0 = .ok (.iload_n 1, 1) := by decide +kernel
theorem d_S_size_1 : decode b_S_size 1 = .ok (.ifCond .ne 30, 3) := by decide +kernel
theorem d_S_size_4 : decode b_S_size 4 = .ok (.aload_n 0, 1) := by decide +kernel
theorem d_S_size_5 : decode b_S_size 5 = .ok (.getfield 47, 3) := by decide +kernel
theorem d_S_size_8 : decode b_S_size 8 = .ok (.invokestatic 97, 3) := by decide +kernel
theorem d_S_size_11 : decode b_S_size 11 = .ok (.ifCond .eq 20, 3) := by decide +kernel
theorem d_S_size_14 : decode b_S_size 14 = .ok (.aload_n 0, 1) := by decide +kernel
theorem d_S_size_15 : decode b_S_size 15 = .ok (.getfield 33, 3) := by decide +kernel
theorem d_S_size_18 : decode b_S_size 18 = .ok (.getfield 101, 3) := by decide +kernel
theorem d_S_size_21 : decode b_S_size 21 = .ok (.getfield 105, 3) := by decide +kernel
theorem d_S_size_24 : decode b_S_size 24 = .ok (.aload_n 0, 1) := by decide +kernel
theorem d_S_size_25 : decode b_S_size 25 = .ok (.getfield 50, 3) := by decide +kernel
theorem d_S_size_28 : decode b_S_size 28 = .ok (.l2i, 1) := by decide +kernel
theorem d_S_size_29 : decode b_S_size 29 = .ok (.iaload, 1) := by decide +kernel
theorem d_S_size_30 : decode b_S_size 30 = .ok (.ireturn, 1) := by decide +kernel
theorem d_S_size_31 : decode b_S_size 31 = .ok (.iload_n 1, 1) := by decide +kernel
theorem d_S_size_32 : decode b_S_size 32 = .ok (.iconst 1, 1) := by decide +kernel
theorem d_S_size_33 : decode b_S_size 33 = .ok (.if_icmp .ne 28, 3) := by decide +kernel
theorem d_S_size_36 : decode b_S_size 36 = .ok (.aload_n 0, 1) := by decide +kernel
theorem d_S_size_37 : decode b_S_size 37 = .ok (.getfield 47, 3) := by decide +kernel
theorem d_S_size_40 : decode b_S_size 40 = .ok (.iconst 2, 1) := by decide +kernel
theorem d_S_size_41 : decode b_S_size 41 = .ok (.if_icmp .ne 20, 3) := by decide +kernel
theorem d_S_size_44 : decode b_S_size 44 = .ok (.aload_n 0, 1) := by decide +kernel
theorem d_S_size_45 : decode b_S_size 45 = .ok (.getfield 33, 3) := by decide +kernel
theorem d_S_size_48 : decode b_S_size 48 = .ok (.getfield 101, 3) := by decide +kernel
theorem d_S_size_51 : decode b_S_size 51 = .ok (.getfield 111, 3) := by decide +kernel
theorem d_S_size_54 : decode b_S_size 54 = .ok (.aload_n 0, 1) := by decide +kernel
theorem d_S_size_55 : decode b_S_size 55 = .ok (.getfield 50, 3) := by decide +kernel
theorem d_S_size_58 : decode b_S_size 58 = .ok (.l2i, 1) := by decide +kernel
theorem d_S_size_59 : decode b_S_size 59 = .ok (.iaload, 1) := by decide +kernel
theorem d_S_size_60 : decode b_S_size 60 = .ok (.ireturn, 1) := by decide +kernel
theorem d_S_size_61 : decode b_S_size 61 = .ok (.iconst 0, 1) := by decide +kernel
theorem d_S_size_62 : decode b_S_size 62 = .ok (.ireturn, 1) := by decide +kernel
theorem d_S_cell_0 : decode b_S_cell 0 = .ok (.aload_n 0, 1) := by decide +kernel
theorem d_S_cell_1 : decode b_S_cell 1 = .ok (.getfield 47, 3) := by decide +kernel
theorem d_S_cell_4 : decode b_S_cell 4 = .ok (.invokestatic 97, 3) := by decide +kernel
theorem d_S_cell_7 : decode b_S_cell 7 = .ok (.ifCond .ne 5, 3) := by decide +kernel
theorem d_S_cell_10 : decode b_S_cell 10 = .ok (.lconst 0, 1) := by decide +kernel
theorem d_S_cell_11 : decode b_S_cell 11 = .ok (.lreturn, 1) := by decide +kernel
theorem d_S_cell_12 : decode b_S_cell 12 = .ok (.aload_n 0, 1) := by decide +kernel
theorem d_S_cell_13 : decode b_S_cell 13 = .ok (.getfield 50, 3) := by decide +kernel
theorem d_S_cell_16 : decode b_S_cell 16 = .ok (.l2i, 1) := by decide +kernel
theorem d_S_cell_17 : decode b_S_cell 17 = .ok (.istore_n 3, 1) := by decide +kernel
theorem d_S_cell_18 : decode b_S_cell 18 = .ok (.aload_n 0, 1) := by decide +kernel
theorem d_S_cell_19 : decode b_S_cell 19 = .ok (.getfield 47, 3) := by decide +kernel
theorem d_S_cell_22 : decode b_S_cell 22 = .ok (.iconst 1, 1) := by decide +kernel
theorem d_S_cell_23 : decode b_S_cell 23 = .ok (.if_icmp .ne 7, 3) := by decide +kernel
theorem d_S_cell_26 : decode b_S_cell 26 = .ok (.iconst 0, 1) := by decide +kernel
theorem d_S_cell_27 : decode b_S_cell 27 = .ok (.goto 4, 3) := by decide +kernel
theorem d_S_cell_30 : decode b_S_cell 30 = .ok (.iload_n 2, 1) := by decide +kernel
theorem d_S_cell_31 : decode b_S_cell 31 = .ok (.istore 4, 2) := by decide +kernel
theorem d_S_cell_33 : decode b_S_cell 33 = .ok (.aload_n 0, 1) := by decide +kernel
theorem d_S_cell_34 : decode b_S_cell 34 = .ok (.getfield 33, 3) := by decide +kernel
theorem d_S_cell_37 : decode b_S_cell 37 = .ok (.getfield 101, 3) := by decide +kernel
theorem d_S_cell_40 : decode b_S_cell 40 = .ok (.iload_n 3, 1) := by decide +kernel
theorem d_S_cell_41 : decode b_S_cell 41 = .ok (.iload_n 1, 1) := by decide +kernel
theorem d_S_cell_42 : decode b_S_cell 42 = .ok (.i2l, 1) := by decide +kernel
theorem d_S_cell_43 : decode b_S_cell 43 = .ok (.iload 4, 2) := by decide +kernel
theorem d_S_cell_45 : decode b_S_cell 45 = .ok (.i2l, 1) := by decide +kernel
theorem d_S_cell_46 : decode b_S_cell 46 = .ok (.invokevirtual 114, 3) := by decide +kernel
theorem d_S_cell_49 : decode b_S_cell 49 = .ok (.ifCond .eq 22, 3) := by decide +kernel
theorem d_S_cell_52 : decode b_S_cell 52 = .ok (.aload_n 0, 1) := by decide +kernel
theorem d_S_cell_53 : decode b_S_cell 53 = .ok (.getfield 33, 3) := by decide +kernel
theorem d_S_cell_56 : decode b_S_cell 56 = .ok (.getfield 101, 3) := by decide +kernel
theorem d_S_cell_59 : decode b_S_cell 59 = .ok (.iload_n 3, 1) := by decide +kernel
theorem d_S_cell_60 : decode b_S_cell 60 = .ok (.iload_n 1, 1) := by decide +kernel
theorem d_S_cell_61 : decode b_S_cell 61 = .ok (.i2l, 1) := by decide +kernel
theorem d_S_cell_62 : decode b_S_cell 62 = .ok (.iload 4, 2) := by decide +kernel
theorem d_S_cell_64 : decode b_S_cell 64 = .ok (.i2l, 1) := by decide +kernel
theorem d_S_cell_65 : decode b_S_cell 65 = .ok (.invokevirtual 118, 3) := by decide +kernel
theorem d_S_cell_68 : decode b_S_cell 68 = .ok (.goto 4, 3) := by decide +kernel
theorem d_S_cell_71 : decode b_S_cell 71 = .ok (.lconst 0, 1) := by decide +kernel
theorem d_S_cell_72 : decode b_S_cell 72 = .ok (.lreturn, 1) := by decide +kernel
theorem d_S_counted_0 : decode b_S_counted 0 = .ok (.iload_n 1, 1) := by decide +kernel
theorem d_S_counted_1 : decode b_S_counted 1 = .ok (.tableswitch 69 0 3 #[31, 39, 50, 61], 31) := by decide +kernel
theorem d_S_counted_32 : decode b_S_counted 32 = .ok (.aload_n 0, 1) := by decide +kernel
theorem d_S_counted_33 : decode b_S_counted 33 = .ok (.getfield 33, 3) := by decide +kernel
theorem d_S_counted_36 : decode b_S_counted 36 = .ok (.getfield 122, 3) := by decide +kernel
theorem d_S_counted_39 : decode b_S_counted 39 = .ok (.ireturn, 1) := by decide +kernel
theorem d_S_counted_40 : decode b_S_counted 40 = .ok (.aload_n 0, 1) := by decide +kernel
theorem d_S_counted_41 : decode b_S_counted 41 = .ok (.getfield 33, 3) := by decide +kernel
theorem d_S_counted_44 : decode b_S_counted 44 = .ok (.getfield 101, 3) := by decide +kernel
theorem d_S_counted_47 : decode b_S_counted 47 = .ok (.getfield 125, 3) := by decide +kernel
theorem d_S_counted_50 : decode b_S_counted 50 = .ok (.ireturn, 1) := by decide +kernel
theorem d_S_counted_51 : decode b_S_counted 51 = .ok (.aload_n 0, 1) := by decide +kernel
theorem d_S_counted_52 : decode b_S_counted 52 = .ok (.getfield 33, 3) := by decide +kernel
theorem d_S_counted_55 : decode b_S_counted 55 = .ok (.getfield 101, 3) := by decide +kernel
theorem d_S_counted_58 : decode b_S_counted 58 = .ok (.getfield 128, 3) := by decide +kernel
theorem d_S_counted_61 : decode b_S_counted 61 = .ok (.ireturn, 1) := by decide +kernel
theorem d_S_counted_62 : decode b_S_counted 62 = .ok (.aload_n 0, 1) := by decide +kernel
theorem d_S_counted_63 : decode b_S_counted 63 = .ok (.getfield 33, 3) := by decide +kernel
theorem d_S_counted_66 : decode b_S_counted 66 = .ok (.getfield 131, 3) := by decide +kernel
theorem d_S_counted_69 : decode b_S_counted 69 = .ok (.ireturn, 1) := by decide +kernel
theorem d_S_counted_70 : decode b_S_counted 70 = .ok (.iconst 0, 1) := by decide +kernel
theorem d_S_counted_71 : decode b_S_counted 71 = .ok (.ireturn, 1) := by decide +kernel
theorem d_S_isArray_0 : decode b_S_isArray 0 = .ok (.iload_n 0, 1) := by decide +kernel
theorem d_S_isArray_1 : decode b_S_isArray 1 = .ok (.iconst 1, 1) := by decide +kernel
theorem d_S_isArray_2 : decode b_S_isArray 2 = .ok (.if_icmp .eq 8, 3) := by decide +kernel
theorem d_S_isArray_5 : decode b_S_isArray 5 = .ok (.iload_n 0, 1) := by decide +kernel
theorem d_S_isArray_6 : decode b_S_isArray 6 = .ok (.iconst 2, 1) := by decide +kernel
theorem d_S_isArray_7 : decode b_S_isArray 7 = .ok (.if_icmp .ne 7, 3) := by decide +kernel
theorem d_S_isArray_10 : decode b_S_isArray 10 = .ok (.iconst 1, 1) := by decide +kernel
theorem d_S_isArray_11 : decode b_S_isArray 11 = .ok (.goto 4, 3) := by decide +kernel
theorem d_S_isArray_14 : decode b_S_isArray 14 = .ok (.iconst 0, 1) := by decide +kernel
theorem d_S_isArray_15 : decode b_S_isArray 15 = .ok (.ireturn, 1) := by decide +kernel
theorem d_O_has_0 : decode b_O_has 0 = .ok (.lload_n 2, 1) := by decide +kernel
theorem d_O_has_1 : decode b_O_has 1 = .ok (.lconst 0, 1) := by decide +kernel
theorem d_O_has_2 : decode b_O_has 2 = .ok (.lcmp, 1) := by decide +kernel
theorem d_O_has_3 : decode b_O_has 3 = .ok (.ifCond .lt 39, 3) := by decide +kernel
theorem d_O_has_6 : decode b_O_has 6 = .ok (.lload_n 2, 1) := by decide +kernel
theorem d_O_has_7 : decode b_O_has 7 = .ok (.aload_n 0, 1) := by decide +kernel
theorem d_O_has_8 : decode b_O_has 8 = .ok (.getfield 9, 3) := by decide +kernel
theorem d_O_has_11 : decode b_O_has 11 = .ok (.iload_n 1, 1) := by decide +kernel
theorem d_O_has_12 : decode b_O_has 12 = .ok (.iaload, 1) := by decide +kernel
theorem d_O_has_13 : decode b_O_has 13 = .ok (.i2l, 1) := by decide +kernel
theorem d_O_has_14 : decode b_O_has 14 = .ok (.lcmp, 1) := by decide +kernel
theorem d_O_has_15 : decode b_O_has 15 = .ok (.ifCond .ge 27, 3) := by decide +kernel
theorem d_O_has_18 : decode b_O_has 18 = .ok (.lload 4, 2) := by decide +kernel
theorem d_O_has_20 : decode b_O_has 20 = .ok (.lconst 0, 1) := by decide +kernel
theorem d_O_has_21 : decode b_O_has 21 = .ok (.lcmp, 1) := by decide +kernel
theorem d_O_has_22 : decode b_O_has 22 = .ok (.ifCond .lt 20, 3) := by decide +kernel
theorem d_O_has_25 : decode b_O_has 25 = .ok (.lload 4, 2) := by decide +kernel
theorem d_O_has_27 : decode b_O_has 27 = .ok (.aload_n 0, 1) := by decide +kernel
theorem d_O_has_28 : decode b_O_has 28 = .ok (.getfield 15, 3) := by decide +kernel
theorem d_O_has_31 : decode b_O_has 31 = .ok (.iload_n 1, 1) := by decide +kernel
theorem d_O_has_32 : decode b_O_has 32 = .ok (.iaload, 1) := by decide +kernel
theorem d_O_has_33 : decode b_O_has 33 = .ok (.i2l, 1) := by decide +kernel
theorem d_O_has_34 : decode b_O_has 34 = .ok (.lcmp, 1) := by decide +kernel
theorem d_O_has_35 : decode b_O_has 35 = .ok (.ifCond .ge 7, 3) := by decide +kernel
theorem d_O_has_38 : decode b_O_has 38 = .ok (.iconst 1, 1) := by decide +kernel
theorem d_O_has_39 : decode b_O_has 39 = .ok (.goto 4, 3) := by decide +kernel
theorem d_O_has_42 : decode b_O_has 42 = .ok (.iconst 0, 1) := by decide +kernel
theorem d_O_has_43 : decode b_O_has 43 = .ok (.ireturn, 1) := by decide +kernel
theorem d_O_numberAt_0 : decode b_O_numberAt 0 = .ok (.aload_n 0, 1) := by decide +kernel
theorem d_O_numberAt_1 : decode b_O_numberAt 1 = .ok (.getfield 27, 3) := by decide +kernel
theorem d_O_numberAt_4 : decode b_O_numberAt 4 = .ok (.iload_n 1, 1) := by decide +kernel
theorem d_O_numberAt_5 : decode b_O_numberAt 5 = .ok (.aaload, 1) := by decide +kernel
theorem d_O_numberAt_6 : decode b_O_numberAt 6 = .ok (.aload_n 0, 1) := by decide +kernel
theorem d_O_numberAt_7 : decode b_O_numberAt 7 = .ok (.iload_n 1, 1) := by decide +kernel
theorem d_O_numberAt_8 : decode b_O_numberAt 8 = .ok (.lload_n 2, 1) := by decide +kernel
theorem d_O_numberAt_9 : decode b_O_numberAt 9 = .ok (.lload 4, 2) := by decide +kernel
theorem d_O_numberAt_11 : decode b_O_numberAt 11 = .ok (.invokevirtual 79, 3) := by decide +kernel
theorem d_O_numberAt_14 : decode b_O_numberAt 14 = .ok (.laload, 1) := by decide +kernel
theorem d_O_numberAt_15 : decode b_O_numberAt 15 = .ok (.lreturn, 1) := by decide +kernel
theorem d_O_indexOf_0 : decode b_O_indexOf 0 = .ok (.aload_n 0, 1) := by decide +kernel
theorem d_O_indexOf_1 : decode b_O_indexOf 1 = .ok (.iload_n 1, 1) := by decide +kernel
theorem d_O_indexOf_2 : decode b_O_indexOf 2 = .ok (.lload_n 2, 1) := by decide +kernel
theorem d_O_indexOf_3 : decode b_O_indexOf 3 = .ok (.lload 4, 2) := by decide +kernel
theorem d_O_indexOf_5 : decode b_O_indexOf 5 = .ok (.invokevirtual 83, 3) := by decide +kernel
theorem d_O_indexOf_8 : decode b_O_indexOf 8 = .ok (.ifCond .ne 13, 3) := by decide +kernel
theorem d_O_indexOf_11 : decode b_O_indexOf 11 = .ok (.new 87, 3) := by decide +kernel
theorem d_O_indexOf_14 : decode b_O_indexOf 14 = .ok (.dup, 1) := by decide +kernel
theorem d_O_indexOf_15 : decode b_O_indexOf 15 = .ok (.ldc 89, 2) := by decide +kernel
theorem d_O_indexOf_17 : decode b_O_indexOf 17 = .ok (.invokespecial 91, 3) := by decide +kernel
theorem d_O_indexOf_20 : decode b_O_indexOf 20 = .ok (.athrow, 1) := by decide +kernel
theorem d_O_indexOf_21 : decode b_O_indexOf 21 = .ok (.lload_n 2, 1) := by decide +kernel
theorem d_O_indexOf_22 : decode b_O_indexOf 22 = .ok (.aload_n 0, 1) := by decide +kernel
theorem d_O_indexOf_23 : decode b_O_indexOf 23 = .ok (.getfield 15, 3) := by decide +kernel
theorem d_O_indexOf_26 : decode b_O_indexOf 26 = .ok (.iload_n 1, 1) := by decide +kernel
theorem d_O_indexOf_27 : decode b_O_indexOf 27 = .ok (.iaload, 1) := by decide +kernel
theorem d_O_indexOf_28 : decode b_O_indexOf 28 = .ok (.i2l, 1) := by decide +kernel
theorem d_O_indexOf_29 : decode b_O_indexOf 29 = .ok (.lmul, 1) := by decide +kernel
theorem d_O_indexOf_30 : decode b_O_indexOf 30 = .ok (.lload 4, 2) := by decide +kernel
theorem d_O_indexOf_32 : decode b_O_indexOf 32 = .ok (.ladd, 1) := by decide +kernel
theorem d_O_indexOf_33 : decode b_O_indexOf 33 = .ok (.l2i, 1) := by decide +kernel
theorem d_O_indexOf_34 : decode b_O_indexOf 34 = .ok (.ireturn, 1) := by decide +kernel
theorem nm_of {y : MethodName} {cc : ByteArray} {nL : Nat} {ret : Option FieldType} (a : Array Value) (u : State) (h : (zWd y cc nL ret []).before a u = true) : ∃ mk, u.methodNamed? y = some mk := Cond.code_named (show (Cond.code y cc nL ret).before a u = true from h)
theorem nm_S_isArray (a : Array Value) (u : State) (h : (zWd y_S_isArray b_S_isArray 1 (some .boolean) []).before a u = true) : ∃ mk, u.methodNamed? y_S_isArray = some mk := nm_of a u h
section XSI
variable {G : zG} {l : Launch} {n : Nat} {xs : mS} {xr : Int64} {xa : mA} {xl : mL} {xf : xF} {σ : zS}
theorem c_S_place (hn : 85 ≤ n) : MetZ G l y_S_place b_S_place 1 (some .int) [] 0 0 0 [.ref 0] n (xOv xs xr xa xl xf σ) (fun o n' σ' => o = .returned (some (.int (xs 4))) ∧ n' = n ∧ σ' = xOv xs xr xa xl xf σ) := by
  refine MetZ.of (by decide) (Nat.le_of_ble_eq_true rfl) (fun K hK hR hpo hmc hms C => ?_)
  refine z_aload_n C 1 d_S_place_0 rfl rfl ?_
  refine z_get C 4 f_S_16 d_S_place_1 rfl (by omega) rfl rfl ?_
  refine z_get C 7 f_S_54 d_S_place_4 rfl (by omega) rfl rfl ?_
  exact z_iret C rfl d_S_place_7 (by rw [hpo]; exact ⟨rfl, rfl, rfl⟩) (by rw [hmc]; omega) (by rw [hms]; omega)
theorem c_S_kind (hn : 85 ≤ n) : MetZ G l y_S_kind b_S_kind 1 (some .int) [] 0 0 0 [.ref 0] n (xOv xs xr xa xl xf σ) (fun o n' σ' => o = .returned (some (.int (xs 3))) ∧ n' = n ∧ σ' = xOv xs xr xa xl xf σ) := by
  refine MetZ.of (by decide) (Nat.le_of_ble_eq_true rfl) (fun K hK hR hpo hmc hms C => ?_)
  refine z_aload_n C 1 d_S_kind_0 rfl rfl ?_
  refine z_get C 4 f_S_47 d_S_kind_1 rfl (by omega) rfl rfl ?_
  exact z_iret C rfl d_S_kind_4 (by rw [hpo]; exact ⟨rfl, rfl, rfl⟩) (by rw [hmc]; omega) (by rw [hms]; omega)
theorem c_S_value (hn : 85 ≤ n) : MetZ G l y_S_value b_S_value 1 (some .long) [] 0 0 0 [.ref 0] n (xOv xs xr xa xl xf σ) (fun o n' σ' => o = .returned (some (.long (if xs 3 = 0 then xr else 0))) ∧ n' = n ∧ σ' = xOv xs xr xa xl xf σ) := by
  refine MetZ.of (by decide) (Nat.le_of_ble_eq_true rfl) (fun K hK hR hpo hmc hms C => ?_)
  refine z_aload_n C 1 d_S_value_0 rfl rfl ?_
  refine z_get C 4 f_S_47 d_S_value_1 rfl (by omega) rfl rfl ?_
  refine z_if_ne C 7 14 d_S_value_4 rfl (by decide) (fun hc => ?_) (fun hc => ?_)
  · refine z_lconst C 15 d_S_value_14 rfl 0 (by decide) ?_
    exact z_lret C rfl d_S_value_15 (by rw [hpo]; exact ⟨by rw [if_neg (show ¬ xs 3 = 0 from hc)], rfl, rfl⟩) (by rw [hmc]; omega) (by rw [hms]; omega)
  · refine z_aload_n C 8 d_S_value_7 rfl rfl ?_
    refine z_get C 11 f_S_50 d_S_value_8 rfl (by omega) rfl rfl ?_
    refine z_goto C 15 d_S_value_11 (by decide) ?_
    exact z_lret C rfl d_S_value_15 (by rw [hpo]; exact ⟨by rw [if_pos (show xs 3 = 0 from hc)], rfl, rfl⟩) (by rw [hmc]; omega) (by rw [hms]; omega)
theorem c_S_argument (hn : 85 ≤ n) (k : Int32) (v : Int64) : MetZ G l y_S_argument b_S_argument 4 (some .boolean) [] 0 0 0 [.ref 0, .int k, .long v] n (xOv xs xr xa xl xf σ) (fun o n' σ' => o = .returned (some (.int (if k < 0 ∨ 3 < k then 0 else 1))) ∧ n' = n ∧ σ' = xOv xs xr xa (if k < 0 ∨ 3 < k then xl else va_up xl 4 (vp_updL (xl 4) k.toNatClampNeg v)) xf σ) := by
  refine MetZ.of (by decide) (Nat.le_of_ble_eq_true rfl) (fun K hK hR hpo hmc hms C => ?_)
  refine z_iload_n C 1 d_S_argument_0 rfl rfl ?_
  refine z_if_lt C 4 9 d_S_argument_1 rfl (by decide) (fun h0 => ?_) (fun h0 => ?_)
  · refine z_iconst C 10 d_S_argument_9 rfl 0 (by decide) ?_
    exact z_zret C rfl (rfl) d_S_argument_10 (by rw [hpo]; exact ⟨by rw [if_pos (Or.inl h0)], rfl, by rw [if_pos (Or.inl h0)]⟩) (by rw [hmc]; omega) (by rw [hms]; omega)
  · obtain ⟨j, hj, rfl⟩ := nI_of h0
    have e4 : nI j < 4 ↔ j < 4 := nI_ltI (b := 4) hj (by omega)
    have e3 : (3 : Int32) < nI j ↔ 3 < j := nI_ltI (a := 3) (by omega) hj
    refine z_iload_n C 5 d_S_argument_4 rfl rfl ?_
    refine z_iconst C 6 d_S_argument_5 rfl 4 (by decide) ?_
    refine z_icmp_lt C 9 11 d_S_argument_6 rfl (by decide) (fun h1 => ?_) (fun h1 => ?_)
    · have hno : ¬ (nI j < 0 ∨ 3 < nI j) := fun q => q.elim h0 (fun q => absurd (e3.mp q) (by have := e4.mp h1; omega))
      refine z_aload_n C 12 d_S_argument_11 rfl rfl ?_
      refine z_get C 15 f_S_26 d_S_argument_12 rfl (by omega) rfl rfl ?_
      refine z_iload_n C 16 d_S_argument_15 rfl rfl ?_
      refine z_lload_n C 17 d_S_argument_16 rfl rfl ?_
      refine zx_last C 18 j d_S_argument_17 rfl (by omega) (by unfold xIsL; omega) rfl (by show j < 4; exact e4.mp h1) (by decide) ?_
      refine z_iconst C 19 d_S_argument_18 rfl 1 (by decide) ?_
      exact z_zret C rfl (rfl) d_S_argument_19 (by rw [hpo]; exact ⟨by rw [if_neg hno], rfl, by rw [if_neg hno, nI_clamp hj]⟩) (by rw [hmc]; omega) (by rw [hms]; omega)
    · have hyes : (nI j < 0 ∨ 3 < nI j) := Or.inr (e3.mpr (by have : ¬ j < 4 := fun q => h1 (e4.mpr q); omega))
      refine z_iconst C 10 d_S_argument_9 rfl 0 (by decide) ?_
      exact z_zret C rfl (rfl) d_S_argument_10 (by rw [hpo]; exact ⟨by rw [if_pos hyes], rfl, by rw [if_pos hyes]⟩) (by rw [hmc]; omega) (by rw [hms]; omega)
def xcounted (xs : mS) (w : Int32) : Int32 := if w = 0 then xs 5 else if w = 1 then xs 8 else if w = 2 then xs 9 else if w = 3 then xs 6 else 0
theorem c_S_counted (hn : 85 ≤ n) (w : Int32) : MetZ G l y_S_counted b_S_counted 2 (some .int) [] 0 0 0 [.ref 0, .int w] n (xOv xs xr xa xl xf σ) (fun o n' σ' => o = .returned (some (.int (xcounted xs w))) ∧ n' = n ∧ σ' = xOv xs xr xa xl xf σ) := by
  refine MetZ.of (by decide) (Nat.le_of_ble_eq_true rfl) (fun K hK hR hpo hmc hms C => ?_)
  refine z_iload_n C 1 d_S_counted_0 rfl rfl ?_
  by_cases h : w = 0
  · subst h
    refine z_tableIn C 32 d_S_counted_1 (by decide) (by decide) rfl (by decide) ?_
    refine z_aload_n C 33 d_S_counted_32 rfl rfl ?_
    refine z_get C 36 f_S_33 d_S_counted_33 rfl (by omega) rfl rfl ?_
    refine z_get C 39 f_S_122 d_S_counted_36 rfl (by omega) rfl rfl ?_
    exact z_iret C rfl d_S_counted_39 (by rw [hpo]; exact ⟨rfl, rfl, rfl⟩) (by rw [hmc]; omega) (by rw [hms]; omega)
  by_cases h1 : w = 1
  · subst h1
    refine z_tableIn C 40 d_S_counted_1 (by decide) (by decide) rfl (by decide) ?_
    refine z_aload_n C 41 d_S_counted_40 rfl rfl ?_
    refine z_get C 44 f_S_33 d_S_counted_41 rfl (by omega) rfl rfl ?_
    refine z_get C 47 f_S_101 d_S_counted_44 rfl (by omega) rfl rfl ?_
    refine z_get C 50 f_S_125 d_S_counted_47 rfl (by omega) rfl rfl ?_
    exact z_iret C rfl d_S_counted_50 (by rw [hpo]; exact ⟨rfl, rfl, rfl⟩) (by rw [hmc]; omega) (by rw [hms]; omega)
  by_cases h2 : w = 2
  · subst h2
    refine z_tableIn C 51 d_S_counted_1 (by decide) (by decide) rfl (by decide) ?_
    refine z_aload_n C 52 d_S_counted_51 rfl rfl ?_
    refine z_get C 55 f_S_33 d_S_counted_52 rfl (by omega) rfl rfl ?_
    refine z_get C 58 f_S_101 d_S_counted_55 rfl (by omega) rfl rfl ?_
    refine z_get C 61 f_S_128 d_S_counted_58 rfl (by omega) rfl rfl ?_
    exact z_iret C rfl d_S_counted_61 (by rw [hpo]; exact ⟨rfl, rfl, rfl⟩) (by rw [hmc]; omega) (by rw [hms]; omega)
  by_cases h3 : w = 3
  · subst h3
    refine z_tableIn C 62 d_S_counted_1 (by decide) (by decide) rfl (by decide) ?_
    refine z_aload_n C 63 d_S_counted_62 rfl rfl ?_
    refine z_get C 66 f_S_33 d_S_counted_63 rfl (by omega) rfl rfl ?_
    refine z_get C 69 f_S_131 d_S_counted_66 rfl (by omega) rfl rfl ?_
    exact z_iret C rfl d_S_counted_69 (by rw [hpo]; exact ⟨rfl, rfl, rfl⟩) (by rw [hmc]; omega) (by rw [hms]; omega)
  have hout : w.toInt < 0 ∨ 3 < w.toInt := by
    have i0 : w.toInt ≠ 0 := fun q => h (Int32.toInt_inj.mp q)
    have i1 : w.toInt ≠ 1 := fun q => h1 (Int32.toInt_inj.mp q)
    have i2 : w.toInt ≠ 2 := fun q => h2 (Int32.toInt_inj.mp q)
    have i3 : w.toInt ≠ 3 := fun q => h3 (Int32.toInt_inj.mp q)
    omega
  refine z_tableOut C 70 d_S_counted_1 hout (by decide) ?_
  refine z_iconst C 71 d_S_counted_70 rfl 0 (by decide) ?_
  exact z_iret C rfl d_S_counted_71 (by rw [hpo]; exact ⟨by rw [xcounted, if_neg h, if_neg h1, if_neg h2, if_neg h3], rfl, rfl⟩) (by rw [hmc]; omega) (by rw [hms]; omega)
theorem c_S_isArray (w : Int32) : MetZ G l y_S_isArray b_S_isArray 1 (some .boolean) [] 0 0 0 [.int w] n σ (fun o n' σ' => o = .returned (some (.int (if w = 1 ∨ w = 2 then 1 else 0))) ∧ n' = n ∧ σ' = σ) := by
  refine MetZ.of (by decide) (Nat.le_of_ble_eq_true rfl) (fun K hK hR hpo hmc hms C => ?_)
  refine z_iload_n C 1 d_S_isArray_0 rfl rfl ?_
  refine z_iconst C 2 d_S_isArray_1 rfl 1 (by decide) ?_
  refine z_icmp_eq C 5 10 d_S_isArray_2 rfl (by decide) (fun h => ?_) (fun h => ?_)
  · refine z_iconst C 11 d_S_isArray_10 rfl 1 (by decide) ?_
    refine z_goto C 15 d_S_isArray_11 (by decide) ?_
    exact z_zret C rfl (rfl) d_S_isArray_15 (by rw [hpo]; exact ⟨by rw [if_pos (Or.inl h)], rfl, rfl⟩) (by rw [hmc]; omega) (by rw [hms]; omega)
  · refine z_iload_n C 6 d_S_isArray_5 rfl rfl ?_
    refine z_iconst C 7 d_S_isArray_6 rfl 2 (by decide) ?_
    refine z_icmp_ne C 10 14 d_S_isArray_7 rfl (by decide) (fun h2 => ?_) (fun h2 => ?_)
    · refine z_iconst C 15 d_S_isArray_14 rfl 0 (by decide) ?_
      exact z_zret C rfl (rfl) d_S_isArray_15 (by rw [hpo]; exact ⟨by rw [if_neg (fun q => q.elim h h2)], rfl, rfl⟩) (by rw [hmc]; omega) (by rw [hms]; omega)
    · refine z_iconst C 11 d_S_isArray_10 rfl 1 (by decide) ?_
      refine z_goto C 15 d_S_isArray_11 (by decide) ?_
      exact z_zret C rfl (rfl) d_S_isArray_15 (by rw [hpo]; exact ⟨by rw [if_pos (Or.inr h2)], rfl, rfl⟩) (by rw [hmc]; omega) (by rw [hms]; omega)
def xclr (f : xF) (k : Nat) : xF := fun j => if j < k then none else f j
theorem xclr_step (f : xF) (k : Nat) : va_up (xclr f k) k none = xclr f (k + 1) := by
  funext j
  unfold va_up xclr
  by_cases h : j = k
  · subst h; simp
  · by_cases h2 : j < k
    · simp [h2, show j < k + 1 by omega]
    · simp [h, h2, show ¬ j < k + 1 by omega]
theorem c_S_clear (hn : 85 ≤ n) : MetZ G l y_S_clear b_S_clear 3 (some .int) [] 0 0 0 [.ref 0] n (xOv xs xr xa xl xf σ) (fun o n' σ' => o = .returned (some (.int (xs 2))) ∧ n' = n ∧ σ' = xOv (upd xs 2 0) xr xa xl (xclr xf 8) σ) := by
  refine MetZ.of (by decide) (Nat.le_of_ble_eq_true rfl) (fun K hK hR hpo hmc hms C => ?_)
  have loop : ∀ j f : Nat, f + j = 8 → Z G K n (xOv xs xr xa xl (xclr xf f) σ) 0 0 7 [(2, .int (nI f)), (1, .int (xs 2)), (0, .ref 0)] [] := by
    intro j
    induction j with
    | zero =>
      intro f hf
      obtain rfl : f = 8 := by omega
      refine z_iload_n C 8 d_S_clear_7 rfl rfl ?_
      refine z_bipush C 10 d_S_clear_8 rfl 8 (by decide) ?_
      refine z_icmp_ge C 13 26 d_S_clear_10 rfl (by decide) (fun _ => ?_) (fun h9 => absurd (show (8 : Int32) ≤ nI 8 by decide) h9)
      refine z_aload_n C 27 d_S_clear_26 rfl rfl ?_
      refine z_iconst C 28 d_S_clear_27 rfl 0 (by decide) ?_
      refine zx_put0 C 31 2 p_S_44 d_S_clear_28 rfl (by omega) (by decide) (by decide) rfl ?_
      refine z_iload_n C 32 d_S_clear_31 rfl rfl ?_
      exact z_iret C rfl d_S_clear_32 (by rw [hpo]; exact ⟨rfl, rfl, rfl⟩) (by rw [hmc]; omega) (by rw [hms]; omega)
    | succ j ih =>
      intro f hf
      refine z_iload_n C 8 d_S_clear_7 rfl rfl ?_
      refine z_bipush C 10 d_S_clear_8 rfl 8 (by decide) ?_
      refine z_icmp_ge C 13 26 d_S_clear_10 rfl (by decide) (fun h9 => absurd h9 (show ¬ (8 : Int32) ≤ nI f from nI_ge (a := f) (b := 8) (by omega) (by omega))) (fun _ => ?_)
      refine z_aload_n C 14 d_S_clear_13 rfl rfl ?_
      refine z_get C 17 f_S_22 d_S_clear_14 rfl (by omega) rfl rfl ?_
      refine z_iload_n C 18 d_S_clear_17 rfl rfl ?_
      refine z_null C 19 d_S_clear_18 rfl ?_
      refine zx_fnull C 20 f d_S_clear_19 rfl (by omega) rfl (by omega) ?_
      rw [xclr_step]
      refine z_iinc C 23 d_S_clear_20 rfl (nI (f + 1)) rfl (z_inc f) (by decide) ?_
      refine z_goto C 7 d_S_clear_23 (by decide) ?_
      exact ih (f + 1) (by omega)
  refine z_aload_n C 1 d_S_clear_0 rfl rfl ?_
  refine z_get C 4 f_S_44 d_S_clear_1 rfl (by omega) rfl rfl ?_
  refine z_istore_n C 5 d_S_clear_4 rfl (by decide) ?_
  refine z_iconst C 6 d_S_clear_5 rfl 0 (by decide) ?_
  refine z_istore_n C 7 d_S_clear_6 rfl (by decide) ?_
  have h := loop 8 0 rfl
  rw [show xclr xf 0 = xf from funext fun j => by simp [xclr]] at h
  exact h
theorem c_S_type (hn : 85 ≤ n) (c : Int32) (u z : Nat) (h1 : xs 0 = nI u) (h2 : xs 1 = nI z) (hzu : z ≤ u) (hu : u ≤ 150) : MetZ G l y_S_type b_S_type 2 (some .boolean) [] 0 0 0 [.ref 0, .int c] n (xOv xs xr xa xl xf σ) (fun o n' σ' => n' = n ∧
    (((c < 32 ∨ 126 < c ∨ u = 150) ∧ o = .returned (some (.int 0)) ∧ σ' = xOv xs xr xa xl xf σ) ∨ (¬ (c < 32 ∨ 126 < c ∨ u = 150) ∧ c = 32 ∧ o = .returned (some (.int 1)) ∧ σ' = xOv (upd xs 0 (nI (u + 1))) xr xa xl xf σ) ∨
     (¬ (c < 32 ∨ 126 < c ∨ u = 150) ∧ c ≠ 32 ∧ o = .returned (some (.int 1)) ∧ σ' = xOv (upd (upd xs 0 (nI (u + 1))) 1 (nI (z + 1))) xr (va_up xa 1 (upd (xa 1) z c)) xl xf σ))) := by
  refine MetZ.of (by decide) (Nat.le_of_ble_eq_true rfl) (fun K hK hR hpo hmc hms C => ?_)
  have no : (c < 32 ∨ 126 < c ∨ u = 150) → Z G K n (xOv xs xr xa xl xf σ) 0 0 22 (lv_args 0 [.ref 0, .int c]) [] := fun hb => by
    refine z_iconst C 23 d_S_type_22 rfl 0 (by decide) ?_
    exact z_zret C rfl (rfl) d_S_type_23 (by rw [hpo]; exact ⟨rfl, Or.inl ⟨hb, rfl, rfl⟩⟩) (by rw [hmc]; omega) (by rw [hms]; omega)
  refine z_iload_n C 1 d_S_type_0 rfl rfl ?_
  refine z_bipush C 3 d_S_type_1 rfl 32 (by decide) ?_
  refine z_icmp_lt C 6 22 d_S_type_3 rfl (by decide) (fun ha => ?_) (fun ha => ?_)
  · exact no (Or.inl ha)
  refine z_iload_n C 7 d_S_type_6 rfl rfl ?_
  refine z_bipush C 9 d_S_type_7 rfl 126 (by decide) ?_
  refine z_icmp_gt C 12 22 d_S_type_9 rfl (by decide) (fun hb => ?_) (fun hb => ?_)
  · exact no (Or.inr (Or.inl hb))
  refine z_aload_n C 13 d_S_type_12 rfl rfl ?_
  refine z_get C 16 f_S_37 d_S_type_13 rfl (by omega) rfl rfl ?_
  refine z_sipush C 19 d_S_type_16 rfl 150 (by decide) ?_
  have e9 : xs 0 < 150 ↔ u < 150 := by rw [h1]; exact nI_ltI (b := 150) (by omega) (by omega)
  refine z_icmp_lt C 22 24 d_S_type_19 rfl (by decide) (fun hc => ?_) (fun hc => ?_)
  · have hc : u < 150 := e9.mp hc
    have hg : ¬ (c < 32 ∨ 126 < c ∨ u = 150) := fun q => q.elim ha (fun q => q.elim hb (by omega))
    have e1 : xs 0 + 1 = nI (u + 1) := by rw [h1]; exact (nI_succ u).symm
    have e2 : xs 1 + 1 = nI (z + 1) := by rw [h2]; exact (nI_succ z).symm
    refine z_aload_n C 25 d_S_type_24 rfl rfl ?_
    refine z_dup C 26 d_S_type_25 rfl rfl ?_
    refine z_get C 29 f_S_37 d_S_type_26 rfl (by omega) rfl rfl ?_
    refine z_iconst C 30 d_S_type_29 rfl 1 (by decide) ?_
    refine z_iadd C 31 d_S_type_30 rfl ?_
    rw [show (xs 0 + 1 : Int32) = nI (u + 1) from e1]
    refine zx_put0 C 34 0 p_S_37 d_S_type_31 rfl (by omega) (by decide) (by decide) rfl ?_
    refine z_iload_n C 35 d_S_type_34 rfl rfl ?_
    refine z_bipush C 37 d_S_type_35 rfl 32 (by decide) ?_
    refine z_icmp_eq C 40 60 d_S_type_37 rfl (by decide) (fun hd => ?_) (fun hd => ?_)
    · refine z_iconst C 61 d_S_type_60 rfl 1 (by decide) ?_
      exact z_zret C rfl (rfl) d_S_type_61 (by rw [hpo]; exact ⟨rfl, Or.inr (Or.inl ⟨hg, hd, rfl, rfl⟩)⟩) (by rw [hmc]; omega) (by rw [hms]; omega)
    · refine z_aload_n C 41 d_S_type_40 rfl rfl ?_
      refine z_get C 44 f_S_9 d_S_type_41 rfl (by omega) rfl rfl ?_
      refine z_aload_n C 45 d_S_type_44 rfl rfl ?_
      refine z_get C 48 f_S_41 d_S_type_45 rfl (by omega) rfl rfl ?_
      refine z_iload_n C 49 d_S_type_48 rfl rfl ?_
      refine zx_cast C 50 z c d_S_type_49 rfl (by omega) (show xs 1 = nI z from h2) (by omega) (z_char ha hb).2 ?_
      refine z_aload_n C 51 d_S_type_50 rfl rfl ?_
      refine z_dup C 52 d_S_type_51 rfl rfl ?_
      refine z_get C 55 f_S_41 d_S_type_52 rfl (by omega) rfl rfl ?_
      refine z_iconst C 56 d_S_type_55 rfl 1 (by decide) ?_
      refine z_iadd C 57 d_S_type_56 rfl ?_
      rw [show (upd xs 0 (nI (u + 1)) 1 + 1 : Int32) = nI (z + 1) from e2]
      refine zx_put0 C 60 1 p_S_41 d_S_type_57 rfl (by omega) (by decide) (by decide) rfl ?_
      refine z_iconst C 61 d_S_type_60 rfl 1 (by decide) ?_
      exact z_zret C rfl (rfl) d_S_type_61 (by rw [hpo]; exact ⟨rfl, Or.inr (Or.inr ⟨hg, hd, rfl, rfl⟩)⟩) (by rw [hmc]; omega) (by rw [hms]; omega)
  · exact no (Or.inr (Or.inr (by have : ¬ u < 150 := fun q => hc (e9.mpr q); omega)))
end XSI
section XSJ
variable {G : zG} {l : Launch} {n : Nat} {xs : mS} {xr : Int64} {xa : mA} {xl : mL} {xf : xF} {σ : zS}
def xsize (xs : mS) (xa : mA) (a : Nat) (w : Int32) : Int32 := if w = 0 ∧ (xs 3 = 1 ∨ xs 3 = 2) then xa 7 a else if w = 1 ∧ xs 3 = 2 then xa 8 a else 0
theorem c_S_size (hn : 85 ≤ n) (w : Int32) (a : Nat) (ha : (xs 3 = 1 ∨ xs 3 = 2) → xr.toInt32 = nI a ∧ a < 8) : MetZ G l y_S_size b_S_size 2 (some .int) [] 1 0 0 [.ref 0, .int w] n (xOv xs xr xa xl xf σ) (fun o n' σ' => o = .returned (some (.int (xsize xs xa a w))) ∧ n' = n ∧ σ' = xOv xs xr xa xl xf σ) := by
  refine MetZ.of (by decide) (Nat.le_of_ble_eq_true rfl) (fun K hK hR hpo hmc hms C => ?_)
  have tail : ∀ k1 k2, k1 = 0 → k2 = 0 → ¬ (w = 0 ∧ (xs 3 = 1 ∨ xs 3 = 2)) → Z G K n (xOv xs xr xa xl xf σ) k1 k2 31 (lv_args 0 [.ref 0, .int w]) [] := fun k1 k2 e1 e2 h0 => by
    subst e1; subst e2
    refine z_iload_n C 32 d_S_size_31 rfl rfl ?_
    refine z_iconst C 33 d_S_size_32 rfl 1 (by decide) ?_
    refine z_icmp_ne C 36 61 d_S_size_33 rfl (by decide) (fun h1 => ?_) (fun h1 => ?_)
    · refine z_iconst C 62 d_S_size_61 rfl 0 (by decide) ?_
      exact z_iret C rfl d_S_size_62 (by rw [hpo]; exact ⟨by rw [xsize, if_neg h0, if_neg (fun q => h1 q.1)], rfl, rfl⟩) (by rw [hmc]; omega) (by rw [hms]; omega)
    · refine z_aload_n C 37 d_S_size_36 rfl rfl ?_
      refine z_get C 40 f_S_47 d_S_size_37 rfl (by omega) rfl rfl ?_
      refine z_iconst C 41 d_S_size_40 rfl 2 (by decide) ?_
      refine z_icmp_ne C 44 61 d_S_size_41 rfl (by decide) (fun h2 => ?_) (fun h2 => ?_)
      · refine z_iconst C 62 d_S_size_61 rfl 0 (by decide) ?_
        exact z_iret C rfl d_S_size_62 (by rw [hpo]; exact ⟨by rw [xsize, if_neg h0, if_neg (fun q => h2 q.2)], rfl, rfl⟩) (by rw [hmc]; omega) (by rw [hms]; omega)
      · obtain ⟨a1, a2⟩ := ha (Or.inr h2)
        refine z_aload_n C 45 d_S_size_44 rfl rfl ?_
        refine z_get C 48 f_S_33 d_S_size_45 rfl (by omega) rfl rfl ?_
        refine z_get C 51 f_S_101 d_S_size_48 rfl (by omega) rfl rfl ?_
        refine z_get C 54 f_S_111 d_S_size_51 rfl (by omega) rfl rfl ?_
        refine z_aload_n C 55 d_S_size_54 rfl rfl ?_
        refine z_get C 58 f_S_50 d_S_size_55 rfl (by omega) rfl rfl ?_
        refine z_l2i C 59 d_S_size_58 rfl ?_
        refine z_iald C 60 a d_S_size_59 rfl (by omega) rfl a1 (by show a < 8; exact a2) (by decide) ?_
        exact z_iret C rfl d_S_size_60 (by rw [hpo]; exact ⟨by rw [xsize, if_neg h0, if_pos ⟨h1, h2⟩], rfl, rfl⟩) (by rw [hmc]; omega) (by rw [hms]; omega)
  refine z_iload_n C 1 d_S_size_0 rfl rfl ?_
  refine z_if_ne C 4 31 d_S_size_1 rfl (by decide) (fun h0 => ?_) (fun h0 => ?_)
  · exact tail _ _ rfl rfl (fun q => h0 q.1)
  refine z_aload_n C 5 d_S_size_4 rfl rfl ?_
  refine z_get C 8 f_S_47 d_S_size_5 rfl (by omega) rfl rfl ?_
  refine z_call C 11 (c_S_isArray (xs 3)) w_S_isArray ini_S d_S_size_8 rfl (z_goS (As := [.int (xs 3)]) C l_S_97 w_S_isArray nm_S_isArray d_S_size_8 rfl) (Nat.le_of_ble_eq_true rfl) (by rw [hR]; simp only [zRm]; omega) (by rw [hR]; simp only [zRm]; omega) (by rw [hR]; simp only [zRm]; omega) (by rw [hR]; simp only [zRm]; omega) (fun v n' σ' hv => ?_) (fun x n' σ' hv => ?_)
  · obtain ⟨hv, rfl, rfl⟩ := hv
    cases hv
    refine z_if_eq C 14 31 d_S_size_11 rfl (by decide) (fun h1 => ?_) (fun h1 => ?_)
    · refine tail _ _ rfl rfl (fun q => ?_)
      rw [if_pos q.2] at h1
      exact absurd h1 (by decide)
    · have h2 : xs 3 = 1 ∨ xs 3 = 2 := by
        rcases Classical.em (xs 3 = 1 ∨ xs 3 = 2) with h | h
        · exact h
        · rw [if_neg h] at h1
          exact absurd rfl h1
      obtain ⟨a1, a2⟩ := ha h2
      refine z_aload_n C 15 d_S_size_14 rfl rfl ?_
      refine z_get C 18 f_S_33 d_S_size_15 rfl (by omega) rfl rfl ?_
      refine z_get C 21 f_S_101 d_S_size_18 rfl (by omega) rfl rfl ?_
      refine z_get C 24 f_S_105 d_S_size_21 rfl (by omega) rfl rfl ?_
      refine z_aload_n C 25 d_S_size_24 rfl rfl ?_
      refine z_get C 28 f_S_50 d_S_size_25 rfl (by omega) rfl rfl ?_
      refine z_l2i C 29 d_S_size_28 rfl ?_
      refine z_iald C 30 a d_S_size_29 rfl (by omega) rfl a1 (by show a < 8; exact a2) (by decide) ?_
      exact z_iret C rfl d_S_size_30 (by rw [hpo]; exact ⟨by rw [xsize, if_pos ⟨h0, h2⟩], rfl, rfl⟩) (by rw [hmc]; omega) (by rw [hms]; omega)
  · exact absurd hv.1 (by simp)
end XSJ
