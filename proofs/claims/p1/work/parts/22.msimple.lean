theorem d_M_type_0 : decode b_M_type 0 = .ok (.aload_n 0, 1) := by decide +kernel
theorem d_M_type_1 : decode b_M_type 1 = .ok (.iconst 0, 1) := by decide +kernel
theorem d_M_type_2 : decode b_M_type 2 = .ok (.putfield 101, 3) := by decide +kernel
theorem d_M_type_5 : decode b_M_type 5 = .ok (.iload_n 1, 1) := by decide +kernel
theorem d_M_type_6 : decode b_M_type 6 = .ok (.bipush 32, 2) := by decide +kernel
theorem d_M_type_8 : decode b_M_type 8 = .ok (.if_icmp .lt 19, 3) := by decide +kernel
theorem d_M_type_11 : decode b_M_type 11 = .ok (.iload_n 1, 1) := by decide +kernel
theorem d_M_type_12 : decode b_M_type 12 = .ok (.bipush 126, 2) := by decide +kernel
theorem d_M_type_14 : decode b_M_type 14 = .ok (.if_icmp .gt 13, 3) := by decide +kernel
theorem d_M_type_17 : decode b_M_type 17 = .ok (.aload_n 0, 1) := by decide +kernel
theorem d_M_type_18 : decode b_M_type 18 = .ok (.getfield 207, 3) := by decide +kernel
theorem d_M_type_21 : decode b_M_type 21 = .ok (.sipush 150, 3) := by decide +kernel
theorem d_M_type_24 : decode b_M_type 24 = .ok (.if_icmp .ne 5, 3) := by decide +kernel
theorem d_M_type_27 : decode b_M_type 27 = .ok (.iconst 0, 1) := by decide +kernel
theorem d_M_type_28 : decode b_M_type 28 = .ok (.ireturn, 1) := by decide +kernel
theorem d_M_type_29 : decode b_M_type 29 = .ok (.aload_n 0, 1) := by decide +kernel
theorem d_M_type_30 : decode b_M_type 30 = .ok (.dup, 1) := by decide +kernel
theorem d_M_type_31 : decode b_M_type 31 = .ok (.getfield 207, 3) := by decide +kernel
theorem d_M_type_34 : decode b_M_type 34 = .ok (.iconst 1, 1) := by decide +kernel
theorem d_M_type_35 : decode b_M_type 35 = .ok (.iadd, 1) := by decide +kernel
theorem d_M_type_36 : decode b_M_type 36 = .ok (.putfield 207, 3) := by decide +kernel
theorem d_M_type_39 : decode b_M_type 39 = .ok (.iload_n 1, 1) := by decide +kernel
theorem d_M_type_40 : decode b_M_type 40 = .ok (.bipush 32, 2) := by decide +kernel
theorem d_M_type_42 : decode b_M_type 42 = .ok (.if_icmp .ne 5, 3) := by decide +kernel
theorem d_M_type_45 : decode b_M_type 45 = .ok (.iconst 1, 1) := by decide +kernel
theorem d_M_type_46 : decode b_M_type 46 = .ok (.ireturn, 1) := by decide +kernel
theorem d_M_type_47 : decode b_M_type 47 = .ok (.aload_n 0, 1) := by decide +kernel
theorem d_M_type_48 : decode b_M_type 48 = .ok (.getfield 7, 3) := by decide +kernel
theorem d_M_type_51 : decode b_M_type 51 = .ok (.aload_n 0, 1) := by decide +kernel
theorem d_M_type_52 : decode b_M_type 52 = .ok (.getfield 111, 3) := by decide +kernel
theorem d_M_type_55 : decode b_M_type 55 = .ok (.iload_n 1, 1) := by decide +kernel
theorem d_M_type_56 : decode b_M_type 56 = .ok (.castore, 1) := by decide +kernel
theorem d_M_type_57 : decode b_M_type 57 = .ok (.aload_n 0, 1) := by decide +kernel
theorem d_M_type_58 : decode b_M_type 58 = .ok (.dup, 1) := by decide +kernel
theorem d_M_type_59 : decode b_M_type 59 = .ok (.getfield 111, 3) := by decide +kernel
theorem d_M_type_62 : decode b_M_type 62 = .ok (.iconst 1, 1) := by decide +kernel
theorem d_M_type_63 : decode b_M_type 63 = .ok (.iadd, 1) := by decide +kernel
theorem d_M_type_64 : decode b_M_type 64 = .ok (.putfield 111, 3) := by decide +kernel
theorem d_M_type_67 : decode b_M_type 67 = .ok (.iconst 1, 1) := by decide +kernel
theorem d_M_type_68 : decode b_M_type 68 = .ok (.ireturn, 1) := by decide +kernel
theorem d_M_place_0 : decode b_M_place 0 = .ok (.aload_n 0, 1) := by decide +kernel
theorem d_M_place_1 : decode b_M_place 1 = .ok (.iconst 0, 1) := by decide +kernel
theorem d_M_place_2 : decode b_M_place 2 = .ok (.putfield 101, 3) := by decide +kernel
theorem d_M_place_5 : decode b_M_place 5 = .ok (.aload_n 0, 1) := by decide +kernel
theorem d_M_place_6 : decode b_M_place 6 = .ok (.getfield 13, 3) := by decide +kernel
theorem d_M_place_9 : decode b_M_place 9 = .ok (.ireturn, 1) := by decide +kernel
theorem d_M_count_0 : decode b_M_count 0 = .ok (.iconst 0, 1) := by decide +kernel
theorem d_M_count_1 : decode b_M_count 1 = .ok (.istore_n 1, 1) := by decide +kernel
theorem d_M_count_2 : decode b_M_count 2 = .ok (.iconst 0, 1) := by decide +kernel
theorem d_M_count_3 : decode b_M_count 3 = .ok (.istore_n 2, 1) := by decide +kernel
theorem d_M_count_4 : decode b_M_count 4 = .ok (.iload_n 2, 1) := by decide +kernel
theorem d_M_count_5 : decode b_M_count 5 = .ok (.bipush 8, 2) := by decide +kernel
theorem d_M_count_7 : decode b_M_count 7 = .ok (.if_icmp .ge 21, 3) := by decide +kernel
theorem d_M_count_10 : decode b_M_count 10 = .ok (.aload_n 0, 1) := by decide +kernel
theorem d_M_count_11 : decode b_M_count 11 = .ok (.getfield 33, 3) := by decide +kernel
theorem d_M_count_14 : decode b_M_count 14 = .ok (.iload_n 2, 1) := by decide +kernel
theorem d_M_count_15 : decode b_M_count 15 = .ok (.baload, 1) := by decide +kernel
theorem d_M_count_16 : decode b_M_count 16 = .ok (.ifCond .eq 6, 3) := by decide +kernel
theorem d_M_count_19 : decode b_M_count 19 = .ok (.iinc 1 1, 3) := by decide +kernel
theorem d_M_count_22 : decode b_M_count 22 = .ok (.iinc 2 1, 3) := by decide +kernel
theorem d_M_count_25 : decode b_M_count 25 = .ok (.goto (-21), 3) := by decide +kernel
theorem d_M_count_28 : decode b_M_count 28 = .ok (.iload_n 1, 1) := by decide +kernel
theorem d_M_count_29 : decode b_M_count 29 = .ok (.ireturn, 1) := by decide +kernel
theorem d_M_clear_0 : decode b_M_clear 0 = .ok (.aload_n 0, 1) := by decide +kernel
theorem d_M_clear_1 : decode b_M_clear 1 = .ok (.iconst 0, 1) := by decide +kernel
theorem d_M_clear_2 : decode b_M_clear 2 = .ok (.putfield 101, 3) := by decide +kernel
theorem d_M_clear_5 : decode b_M_clear 5 = .ok (.aload_n 0, 1) := by decide +kernel
theorem d_M_clear_6 : decode b_M_clear 6 = .ok (.invokevirtual 216, 3) := by decide +kernel
theorem d_M_clear_9 : decode b_M_clear 9 = .ok (.istore_n 1, 1) := by decide +kernel
theorem d_M_clear_10 : decode b_M_clear 10 = .ok (.iconst 0, 1) := by decide +kernel
theorem d_M_clear_11 : decode b_M_clear 11 = .ok (.istore_n 2, 1) := by decide +kernel
theorem d_M_clear_12 : decode b_M_clear 12 = .ok (.iload_n 2, 1) := by decide +kernel
theorem d_M_clear_13 : decode b_M_clear 13 = .ok (.bipush 8, 2) := by decide +kernel
theorem d_M_clear_15 : decode b_M_clear 15 = .ok (.if_icmp .ge 16, 3) := by decide +kernel
theorem d_M_clear_18 : decode b_M_clear 18 = .ok (.aload_n 0, 1) := by decide +kernel
theorem d_M_clear_19 : decode b_M_clear 19 = .ok (.getfield 33, 3) := by decide +kernel
theorem d_M_clear_22 : decode b_M_clear 22 = .ok (.iload_n 2, 1) := by decide +kernel
theorem d_M_clear_23 : decode b_M_clear 23 = .ok (.iconst 0, 1) := by decide +kernel
theorem d_M_clear_24 : decode b_M_clear 24 = .ok (.bastore, 1) := by decide +kernel
theorem d_M_clear_25 : decode b_M_clear 25 = .ok (.iinc 2 1, 3) := by decide +kernel
theorem d_M_clear_28 : decode b_M_clear 28 = .ok (.goto (-16), 3) := by decide +kernel
theorem d_M_clear_31 : decode b_M_clear 31 = .ok (.iload_n 1, 1) := by decide +kernel
theorem d_M_clear_32 : decode b_M_clear 32 = .ok (.ireturn, 1) := by decide +kernel
theorem d_M_argument_0 : decode b_M_argument 0 = .ok (.aload_n 0, 1) := by decide +kernel
theorem d_M_argument_1 : decode b_M_argument 1 = .ok (.iconst 0, 1) := by decide +kernel
theorem d_M_argument_2 : decode b_M_argument 2 = .ok (.putfield 101, 3) := by decide +kernel
theorem d_M_argument_5 : decode b_M_argument 5 = .ok (.iload_n 1, 1) := by decide +kernel
theorem d_M_argument_6 : decode b_M_argument 6 = .ok (.ifCond .lt 8, 3) := by decide +kernel
theorem d_M_argument_9 : decode b_M_argument 9 = .ok (.iload_n 1, 1) := by decide +kernel
theorem d_M_argument_10 : decode b_M_argument 10 = .ok (.iconst 3, 1) := by decide +kernel
theorem d_M_argument_11 : decode b_M_argument 11 = .ok (.if_icmp .le 5, 3) := by decide +kernel
theorem d_M_argument_14 : decode b_M_argument 14 = .ok (.iconst 0, 1) := by decide +kernel
theorem d_M_argument_15 : decode b_M_argument 15 = .ok (.ireturn, 1) := by decide +kernel
theorem d_M_argument_16 : decode b_M_argument 16 = .ok (.aload_n 0, 1) := by decide +kernel
theorem d_M_argument_17 : decode b_M_argument 17 = .ok (.getfield 92, 3) := by decide +kernel
theorem d_M_argument_20 : decode b_M_argument 20 = .ok (.iload_n 1, 1) := by decide +kernel
theorem d_M_argument_21 : decode b_M_argument 21 = .ok (.lload_n 2, 1) := by decide +kernel
theorem d_M_argument_22 : decode b_M_argument 22 = .ok (.lastore, 1) := by decide +kernel
theorem d_M_argument_23 : decode b_M_argument 23 = .ok (.iconst 1, 1) := by decide +kernel
theorem d_M_argument_24 : decode b_M_argument 24 = .ok (.ireturn, 1) := by decide +kernel
theorem d_M_kind_0 : decode b_M_kind 0 = .ok (.aload_n 0, 1) := by decide +kernel
theorem d_M_kind_1 : decode b_M_kind 1 = .ok (.iconst 0, 1) := by decide +kernel
theorem d_M_kind_2 : decode b_M_kind 2 = .ok (.putfield 101, 3) := by decide +kernel
theorem d_M_kind_5 : decode b_M_kind 5 = .ok (.aload_n 0, 1) := by decide +kernel
theorem d_M_kind_6 : decode b_M_kind 6 = .ok (.getfield 95, 3) := by decide +kernel
theorem d_M_kind_9 : decode b_M_kind 9 = .ok (.ireturn, 1) := by decide +kernel
theorem d_M_value_0 : decode b_M_value 0 = .ok (.aload_n 0, 1) := by decide +kernel
theorem d_M_value_1 : decode b_M_value 1 = .ok (.iconst 0, 1) := by decide +kernel
theorem d_M_value_2 : decode b_M_value 2 = .ok (.putfield 101, 3) := by decide +kernel
theorem d_M_value_5 : decode b_M_value 5 = .ok (.aload_n 0, 1) := by decide +kernel
theorem d_M_value_6 : decode b_M_value 6 = .ok (.getfield 95, 3) := by decide +kernel
theorem d_M_value_9 : decode b_M_value 9 = .ok (.ifCond .ne 10, 3) := by decide +kernel
theorem d_M_value_12 : decode b_M_value 12 = .ok (.aload_n 0, 1) := by decide +kernel
theorem d_M_value_13 : decode b_M_value 13 = .ok (.getfield 287, 3) := by decide +kernel
theorem d_M_value_16 : decode b_M_value 16 = .ok (.goto 4, 3) := by decide +kernel
theorem d_M_value_19 : decode b_M_value 19 = .ok (.lconst 0, 1) := by decide +kernel
theorem d_M_value_20 : decode b_M_value 20 = .ok (.lreturn, 1) := by decide +kernel
theorem d_M_size_0 : decode b_M_size 0 = .ok (.aload_n 0, 1) := by decide +kernel
theorem d_M_size_1 : decode b_M_size 1 = .ok (.iconst 0, 1) := by decide +kernel
theorem d_M_size_2 : decode b_M_size 2 = .ok (.putfield 101, 3) := by decide +kernel
theorem d_M_size_5 : decode b_M_size 5 = .ok (.iload_n 1, 1) := by decide +kernel
theorem d_M_size_6 : decode b_M_size 6 = .ok (.ifCond .ne 17, 3) := by decide +kernel
theorem d_M_size_9 : decode b_M_size 9 = .ok (.aload_n 0, 1) := by decide +kernel
theorem d_M_size_10 : decode b_M_size 10 = .ok (.getfield 95, 3) := by decide +kernel
theorem d_M_size_13 : decode b_M_size 13 = .ok (.ifCond .le 10, 3) := by decide +kernel
theorem d_M_size_16 : decode b_M_size 16 = .ok (.aload_n 0, 1) := by decide +kernel
theorem d_M_size_17 : decode b_M_size 17 = .ok (.getfield 291, 3) := by decide +kernel
theorem d_M_size_20 : decode b_M_size 20 = .ok (.goto 24, 3) := by decide +kernel
theorem d_M_size_23 : decode b_M_size 23 = .ok (.iload_n 1, 1) := by decide +kernel
theorem d_M_size_24 : decode b_M_size 24 = .ok (.iconst 1, 1) := by decide +kernel
theorem d_M_size_25 : decode b_M_size 25 = .ok (.if_icmp .ne 18, 3) := by decide +kernel
theorem d_M_size_28 : decode b_M_size 28 = .ok (.aload_n 0, 1) := by decide +kernel
theorem d_M_size_29 : decode b_M_size 29 = .ok (.getfield 95, 3) := by decide +kernel
theorem d_M_size_32 : decode b_M_size 32 = .ok (.iconst 2, 1) := by decide +kernel
theorem d_M_size_33 : decode b_M_size 33 = .ok (.if_icmp .ne 10, 3) := by decide +kernel
theorem d_M_size_36 : decode b_M_size 36 = .ok (.aload_n 0, 1) := by decide +kernel
theorem d_M_size_37 : decode b_M_size 37 = .ok (.getfield 294, 3) := by decide +kernel
theorem d_M_size_40 : decode b_M_size 40 = .ok (.goto 4, 3) := by decide +kernel
theorem d_M_size_43 : decode b_M_size 43 = .ok (.iconst 0, 1) := by decide +kernel
theorem d_M_size_44 : decode b_M_size 44 = .ok (.ireturn, 1) := by decide +kernel
theorem d_M_cell_0 : decode b_M_cell 0 = .ok (.aload_n 0, 1) := by decide +kernel
theorem d_M_cell_1 : decode b_M_cell 1 = .ok (.iconst 0, 1) := by decide +kernel
theorem d_M_cell_2 : decode b_M_cell 2 = .ok (.putfield 101, 3) := by decide +kernel
theorem d_M_cell_5 : decode b_M_cell 5 = .ok (.aload_n 0, 1) := by decide +kernel
theorem d_M_cell_6 : decode b_M_cell 6 = .ok (.getfield 95, 3) := by decide +kernel
theorem d_M_cell_9 : decode b_M_cell 9 = .ok (.iconst 1, 1) := by decide +kernel
theorem d_M_cell_10 : decode b_M_cell 10 = .ok (.if_icmp .ne 7, 3) := by decide +kernel
theorem d_M_cell_13 : decode b_M_cell 13 = .ok (.iconst 0, 1) := by decide +kernel
theorem d_M_cell_14 : decode b_M_cell 14 = .ok (.goto 4, 3) := by decide +kernel
theorem d_M_cell_17 : decode b_M_cell 17 = .ok (.iload_n 2, 1) := by decide +kernel
theorem d_M_cell_18 : decode b_M_cell 18 = .ok (.istore_n 3, 1) := by decide +kernel
theorem d_M_cell_19 : decode b_M_cell 19 = .ok (.aload_n 0, 1) := by decide +kernel
theorem d_M_cell_20 : decode b_M_cell 20 = .ok (.getfield 95, 3) := by decide +kernel
theorem d_M_cell_23 : decode b_M_cell 23 = .ok (.iconst 1, 1) := by decide +kernel
theorem d_M_cell_24 : decode b_M_cell 24 = .ok (.if_icmp .lt 27, 3) := by decide +kernel
theorem d_M_cell_27 : decode b_M_cell 27 = .ok (.iload_n 1, 1) := by decide +kernel
theorem d_M_cell_28 : decode b_M_cell 28 = .ok (.ifCond .lt 23, 3) := by decide +kernel
theorem d_M_cell_31 : decode b_M_cell 31 = .ok (.iload_n 1, 1) := by decide +kernel
theorem d_M_cell_32 : decode b_M_cell 32 = .ok (.aload_n 0, 1) := by decide +kernel
theorem d_M_cell_33 : decode b_M_cell 33 = .ok (.getfield 291, 3) := by decide +kernel
theorem d_M_cell_36 : decode b_M_cell 36 = .ok (.if_icmp .ge 15, 3) := by decide +kernel
theorem d_M_cell_39 : decode b_M_cell 39 = .ok (.iload_n 3, 1) := by decide +kernel
theorem d_M_cell_40 : decode b_M_cell 40 = .ok (.ifCond .lt 11, 3) := by decide +kernel
theorem d_M_cell_43 : decode b_M_cell 43 = .ok (.iload_n 3, 1) := by decide +kernel
theorem d_M_cell_44 : decode b_M_cell 44 = .ok (.aload_n 0, 1) := by decide +kernel
theorem d_M_cell_45 : decode b_M_cell 45 = .ok (.getfield 294, 3) := by decide +kernel
theorem d_M_cell_48 : decode b_M_cell 48 = .ok (.if_icmp .lt 5, 3) := by decide +kernel
theorem d_M_cell_51 : decode b_M_cell 51 = .ok (.lconst 0, 1) := by decide +kernel
theorem d_M_cell_52 : decode b_M_cell 52 = .ok (.lreturn, 1) := by decide +kernel
theorem d_M_cell_53 : decode b_M_cell 53 = .ok (.aload_n 0, 1) := by decide +kernel
theorem d_M_cell_54 : decode b_M_cell 54 = .ok (.getfield 98, 3) := by decide +kernel
theorem d_M_cell_57 : decode b_M_cell 57 = .ok (.iload_n 1, 1) := by decide +kernel
theorem d_M_cell_58 : decode b_M_cell 58 = .ok (.aload_n 0, 1) := by decide +kernel
theorem d_M_cell_59 : decode b_M_cell 59 = .ok (.getfield 294, 3) := by decide +kernel
theorem d_M_cell_62 : decode b_M_cell 62 = .ok (.imul, 1) := by decide +kernel
theorem d_M_cell_63 : decode b_M_cell 63 = .ok (.iload_n 3, 1) := by decide +kernel
theorem d_M_cell_64 : decode b_M_cell 64 = .ok (.iadd, 1) := by decide +kernel
theorem d_M_cell_65 : decode b_M_cell 65 = .ok (.laload, 1) := by decide +kernel
theorem d_M_cell_66 : decode b_M_cell 66 = .ok (.lreturn, 1) := by decide +kernel
theorem d_M_counted_0 : decode b_M_counted 0 = .ok (.aload_n 0, 1) := by decide +kernel
theorem d_M_counted_1 : decode b_M_counted 1 = .ok (.iconst 0, 1) := by decide +kernel
theorem d_M_counted_2 : decode b_M_counted 2 = .ok (.putfield 101, 3) := by decide +kernel
theorem d_M_counted_5 : decode b_M_counted 5 = .ok (.iload_n 1, 1) := by decide +kernel
theorem d_M_counted_6 : decode b_M_counted 6 = .ok (.ifCond .ne 10, 3) := by decide +kernel
theorem d_M_counted_9 : decode b_M_counted 9 = .ok (.aload_n 0, 1) := by decide +kernel
theorem d_M_counted_10 : decode b_M_counted 10 = .ok (.getfield 219, 3) := by decide +kernel
theorem d_M_counted_13 : decode b_M_counted 13 = .ok (.goto 40, 3) := by decide +kernel
theorem d_M_counted_16 : decode b_M_counted 16 = .ok (.iload_n 1, 1) := by decide +kernel
theorem d_M_counted_17 : decode b_M_counted 17 = .ok (.iconst 1, 1) := by decide +kernel
theorem d_M_counted_18 : decode b_M_counted 18 = .ok (.if_icmp .ne 10, 3) := by decide +kernel
theorem d_M_counted_21 : decode b_M_counted 21 = .ok (.aload_n 0, 1) := by decide +kernel
theorem d_M_counted_22 : decode b_M_counted 22 = .ok (.getfield 236, 3) := by decide +kernel
theorem d_M_counted_25 : decode b_M_counted 25 = .ok (.goto 28, 3) := by decide +kernel
theorem d_M_counted_28 : decode b_M_counted 28 = .ok (.iload_n 1, 1) := by decide +kernel
theorem d_M_counted_29 : decode b_M_counted 29 = .ok (.iconst 2, 1) := by decide +kernel
theorem d_M_counted_30 : decode b_M_counted 30 = .ok (.if_icmp .ne 10, 3) := by decide +kernel
theorem d_M_counted_33 : decode b_M_counted 33 = .ok (.aload_n 0, 1) := by decide +kernel
theorem d_M_counted_34 : decode b_M_counted 34 = .ok (.getfield 239, 3) := by decide +kernel
theorem d_M_counted_37 : decode b_M_counted 37 = .ok (.goto 16, 3) := by decide +kernel
theorem d_M_counted_40 : decode b_M_counted 40 = .ok (.iload_n 1, 1) := by decide +kernel
theorem d_M_counted_41 : decode b_M_counted 41 = .ok (.iconst 3, 1) := by decide +kernel
theorem d_M_counted_42 : decode b_M_counted 42 = .ok (.if_icmp .ne 10, 3) := by decide +kernel
theorem d_M_counted_45 : decode b_M_counted 45 = .ok (.aload_n 0, 1) := by decide +kernel
theorem d_M_counted_46 : decode b_M_counted 46 = .ok (.getfield 253, 3) := by decide +kernel
theorem d_M_counted_49 : decode b_M_counted 49 = .ok (.goto 4, 3) := by decide +kernel
theorem d_M_counted_52 : decode b_M_counted 52 = .ok (.iconst 0, 1) := by decide +kernel
theorem d_M_counted_53 : decode b_M_counted 53 = .ok (.ireturn, 1) := by decide +kernel
theorem z_inc (f : Nat) : nI f + Int32.ofInt 1 = nI (f + 1) := by rw [nI_succ]; rfl
section MSI
variable {G : zG} {l : Launch} {n : Nat} {S : mS} {A : mA} {L : mL} {rn : Int64} {σ : zS}
theorem c_M_place (hn : 113 ≤ n) : MetZ G l y_M_place b_M_place 1 (some .int) [] 0 0 0 [.ref 85] n (mOv S A L rn σ) (fun o n' σ' => o = .returned (some (.int (S 6))) ∧ n' = n ∧ σ' = mOv (upd S 0 0) A L rn σ) := by
  refine MetZ.of (by decide) (Nat.le_of_ble_eq_true rfl) (fun K hK hR hpo hmc hms C => ?_)
  refine z_aload_n C 1 d_M_place_0 rfl rfl ?_
  refine z_iconst C 2 d_M_place_1 rfl 0 (by decide) ?_
  refine zm_puti C 5 p_M_101 d_M_place_2 rfl hn (by decide) (rfl) rfl rfl ?_
  refine z_aload_n C 6 d_M_place_5 rfl rfl ?_
  refine zm_get C 9 f_M_13 d_M_place_6 rfl hn rfl ?_
  exact z_iret C rfl d_M_place_9 (by rw [hpo]; exact ⟨rfl, rfl, rfl⟩) (by rw [hmc]; omega) (by rw [hms]; omega)
theorem c_M_kind (hn : 113 ≤ n) : MetZ G l y_M_kind b_M_kind 1 (some .int) [] 0 0 0 [.ref 85] n (mOv S A L rn σ) (fun o n' σ' => o = .returned (some (.int (S 46))) ∧ n' = n ∧ σ' = mOv (upd S 0 0) A L rn σ) := by
  refine MetZ.of (by decide) (Nat.le_of_ble_eq_true rfl) (fun K hK hR hpo hmc hms C => ?_)
  refine z_aload_n C 1 d_M_kind_0 rfl rfl ?_
  refine z_iconst C 2 d_M_kind_1 rfl 0 (by decide) ?_
  refine zm_puti C 5 p_M_101 d_M_kind_2 rfl hn (by decide) (rfl) rfl rfl ?_
  refine z_aload_n C 6 d_M_kind_5 rfl rfl ?_
  refine zm_get C 9 f_M_95 d_M_kind_6 rfl hn rfl ?_
  exact z_iret C rfl d_M_kind_9 (by rw [hpo]; exact ⟨rfl, rfl, rfl⟩) (by rw [hmc]; omega) (by rw [hms]; omega)
theorem c_M_value (hn : 113 ≤ n) : MetZ G l y_M_value b_M_value 1 (some .long) [] 0 0 0 [.ref 85] n (mOv S A L rn σ) (fun o n' σ' => o = .returned (some (.long (if S 46 = 0 then rn else 0))) ∧ n' = n ∧ σ' = mOv (upd S 0 0) A L rn σ) := by
  refine MetZ.of (by decide) (Nat.le_of_ble_eq_true rfl) (fun K hK hR hpo hmc hms C => ?_)
  refine z_aload_n C 1 d_M_value_0 rfl rfl ?_
  refine z_iconst C 2 d_M_value_1 rfl 0 (by decide) ?_
  refine zm_puti C 5 p_M_101 d_M_value_2 rfl hn (by decide) (rfl) rfl rfl ?_
  refine z_aload_n C 6 d_M_value_5 rfl rfl ?_
  refine zm_get C 9 f_M_95 d_M_value_6 rfl hn rfl ?_
  refine z_if_ne C 12 19 d_M_value_9 rfl (by decide) (fun hc => ?_) (fun hc => ?_)
  · refine z_lconst C 20 d_M_value_19 rfl 0 (by decide) ?_
    exact z_lret C rfl d_M_value_20 (by rw [hpo]; exact ⟨by rw [if_neg (show ¬ S 46 = 0 from hc)], rfl, rfl⟩) (by rw [hmc]; omega) (by rw [hms]; omega)
  · refine z_aload_n C 13 d_M_value_12 rfl rfl ?_
    refine zm_get C 16 f_M_287 d_M_value_13 rfl hn rfl ?_
    refine z_goto C 20 d_M_value_16 (by decide) ?_
    exact z_lret C rfl d_M_value_20 (by rw [hpo]; exact ⟨by rw [if_pos (show S 46 = 0 from hc)], rfl, rfl⟩) (by rw [hmc]; omega) (by rw [hms]; omega)
/-- what size(w) answers -/
def msize (S : mS) (w : Int32) : Int32 := if w = 0 ∧ 0 < S 46 then S 48 else if w = 1 ∧ S 46 = 2 then S 49 else 0
theorem c_M_size (hn : 113 ≤ n) (w : Int32) : MetZ G l y_M_size b_M_size 2 (some .int) [] 0 0 0 [.ref 85, .int w] n (mOv S A L rn σ) (fun o n' σ' => o = .returned (some (.int (msize S w))) ∧ n' = n ∧ σ' = mOv (upd S 0 0) A L rn σ) := by
  refine MetZ.of (by decide) (Nat.le_of_ble_eq_true rfl) (fun K hK hR hpo hmc hms C => ?_)
  have tail : ¬ (w = 0 ∧ 0 < S 46) → Z G K n (mOv (upd S 0 0) A L rn σ) 0 0 23 (lv_args 0 [.ref 85, .int w]) [] := fun h0 => by
    refine z_iload_n C 24 d_M_size_23 rfl rfl ?_
    refine z_iconst C 25 d_M_size_24 rfl 1 (by decide) ?_
    refine z_icmp_ne C 28 43 d_M_size_25 rfl (by decide) (fun h1 => ?_) (fun h1 => ?_)
    · refine z_iconst C 44 d_M_size_43 rfl 0 (by decide) ?_
      exact z_iret C rfl d_M_size_44 (by rw [hpo]; exact ⟨by rw [msize, if_neg h0, if_neg (fun q => h1 q.1)], rfl, rfl⟩) (by rw [hmc]; omega) (by rw [hms]; omega)
    · refine z_aload_n C 29 d_M_size_28 rfl rfl ?_
      refine zm_get C 32 f_M_95 d_M_size_29 rfl hn rfl ?_
      refine z_iconst C 33 d_M_size_32 rfl 2 (by decide) ?_
      refine z_icmp_ne C 36 43 d_M_size_33 rfl (by decide) (fun h2 => ?_) (fun h2 => ?_)
      · refine z_iconst C 44 d_M_size_43 rfl 0 (by decide) ?_
        exact z_iret C rfl d_M_size_44 (by rw [hpo]; exact ⟨by rw [msize, if_neg h0, if_neg (fun q => h2 q.2)], rfl, rfl⟩) (by rw [hmc]; omega) (by rw [hms]; omega)
      · refine z_aload_n C 37 d_M_size_36 rfl rfl ?_
        refine zm_get C 40 f_M_294 d_M_size_37 rfl hn rfl ?_
        refine z_goto C 44 d_M_size_40 (by decide) ?_
        exact z_iret C rfl d_M_size_44 (by rw [hpo]; exact ⟨by rw [msize, if_neg h0, if_pos ⟨h1, h2⟩]; rfl, rfl, rfl⟩) (by rw [hmc]; omega) (by rw [hms]; omega)
  refine z_aload_n C 1 d_M_size_0 rfl rfl ?_
  refine z_iconst C 2 d_M_size_1 rfl 0 (by decide) ?_
  refine zm_puti C 5 p_M_101 d_M_size_2 rfl hn (by decide) (rfl) rfl rfl ?_
  refine z_iload_n C 6 d_M_size_5 rfl rfl ?_
  refine z_if_ne C 9 23 d_M_size_6 rfl (by decide) (fun h0 => ?_) (fun h0 => ?_)
  · exact tail (fun q => h0 q.1)
  · refine z_aload_n C 10 d_M_size_9 rfl rfl ?_
    refine zm_get C 13 f_M_95 d_M_size_10 rfl hn rfl ?_
    refine z_if_le C 16 23 d_M_size_13 rfl (by decide) (fun h1 => ?_) (fun h1 => ?_)
    · exact tail (fun q => Int32.not_lt.mpr h1 q.2)
    · refine z_aload_n C 17 d_M_size_16 rfl rfl ?_
      refine zm_get C 20 f_M_291 d_M_size_17 rfl hn rfl ?_
      refine z_goto C 44 d_M_size_20 (by decide) ?_
      exact z_iret C rfl d_M_size_44 (by rw [hpo]; exact ⟨by rw [msize, if_pos ⟨h0, Int32.not_le.mp h1⟩]; rfl, rfl, rfl⟩) (by rw [hmc]; omega) (by rw [hms]; omega)
/-- what counted(w) answers -/
def mcounted (S : mS) (w : Int32) : Int32 := if w = 0 then S 39 else if w = 1 then S 40 else if w = 2 then S 42 else if w = 3 then S 43 else 0
theorem c_M_counted (hn : 113 ≤ n) (w : Int32) : MetZ G l y_M_counted b_M_counted 2 (some .int) [] 0 0 0 [.ref 85, .int w] n (mOv S A L rn σ) (fun o n' σ' => o = .returned (some (.int (mcounted S w))) ∧ n' = n ∧ σ' = mOv (upd S 0 0) A L rn σ) := by
  refine MetZ.of (by decide) (Nat.le_of_ble_eq_true rfl) (fun K hK hR hpo hmc hms C => ?_)
  refine z_aload_n C 1 d_M_counted_0 rfl rfl ?_
  refine z_iconst C 2 d_M_counted_1 rfl 0 (by decide) ?_
  refine zm_puti C 5 p_M_101 d_M_counted_2 rfl hn (by decide) (rfl) rfl rfl ?_
  refine z_iload_n C 6 d_M_counted_5 rfl rfl ?_
  refine z_if_ne C 9 16 d_M_counted_6 rfl (by decide) (fun h0 => ?_) (fun h0 => ?_)
  · refine z_iload_n C 17 d_M_counted_16 rfl rfl ?_
    refine z_iconst C 18 d_M_counted_17 rfl 1 (by decide) ?_
    refine z_icmp_ne C 21 28 d_M_counted_18 rfl (by decide) (fun h1 => ?_) (fun h1 => ?_)
    · refine z_iload_n C 29 d_M_counted_28 rfl rfl ?_
      refine z_iconst C 30 d_M_counted_29 rfl 2 (by decide) ?_
      refine z_icmp_ne C 33 40 d_M_counted_30 rfl (by decide) (fun h2 => ?_) (fun h2 => ?_)
      · refine z_iload_n C 41 d_M_counted_40 rfl rfl ?_
        refine z_iconst C 42 d_M_counted_41 rfl 3 (by decide) ?_
        refine z_icmp_ne C 45 52 d_M_counted_42 rfl (by decide) (fun h3 => ?_) (fun h3 => ?_)
        · refine z_iconst C 53 d_M_counted_52 rfl 0 (by decide) ?_
          exact z_iret C rfl d_M_counted_53 (by rw [hpo]; exact ⟨by rw [mcounted, if_neg h0, if_neg h1, if_neg h2, if_neg h3], rfl, rfl⟩) (by rw [hmc]; omega) (by rw [hms]; omega)
        · refine z_aload_n C 46 d_M_counted_45 rfl rfl ?_
          refine zm_get C 49 f_M_253 d_M_counted_46 rfl hn rfl ?_
          refine z_goto C 53 d_M_counted_49 (by decide) ?_
          exact z_iret C rfl d_M_counted_53 (by rw [hpo]; exact ⟨by rw [mcounted, if_neg h0, if_neg h1, if_neg h2, if_pos h3]; rfl, rfl, rfl⟩) (by rw [hmc]; omega) (by rw [hms]; omega)
      · refine z_aload_n C 34 d_M_counted_33 rfl rfl ?_
        refine zm_get C 37 f_M_239 d_M_counted_34 rfl hn rfl ?_
        refine z_goto C 53 d_M_counted_37 (by decide) ?_
        exact z_iret C rfl d_M_counted_53 (by rw [hpo]; exact ⟨by rw [mcounted, if_neg h0, if_neg h1, if_pos h2]; rfl, rfl, rfl⟩) (by rw [hmc]; omega) (by rw [hms]; omega)
    · refine z_aload_n C 22 d_M_counted_21 rfl rfl ?_
      refine zm_get C 25 f_M_236 d_M_counted_22 rfl hn rfl ?_
      refine z_goto C 53 d_M_counted_25 (by decide) ?_
      exact z_iret C rfl d_M_counted_53 (by rw [hpo]; exact ⟨by rw [mcounted, if_neg h0, if_pos h1]; rfl, rfl, rfl⟩) (by rw [hmc]; omega) (by rw [hms]; omega)
  · refine z_aload_n C 10 d_M_counted_9 rfl rfl ?_
    refine zm_get C 13 f_M_219 d_M_counted_10 rfl hn rfl ?_
    refine z_goto C 53 d_M_counted_13 (by decide) ?_
    exact z_iret C rfl d_M_counted_53 (by rw [hpo]; exact ⟨by rw [mcounted, if_pos h0]; rfl, rfl, rfl⟩) (by rw [hmc]; omega) (by rw [hms]; omega)
/-- argument(k, v) -/
theorem c_M_argument (hn : 113 ≤ n) (k : Int32) (v : Int64) : MetZ G l y_M_argument b_M_argument 4 (some .boolean) [] 0 0 0 [.ref 85, .int k, .long v] n (mOv S A L rn σ) (fun o n' σ' => o = .returned (some (.int (if k < 0 ∨ 3 < k then 0 else 1))) ∧ n' = n ∧ σ' = mOv (upd S 0 0) A (if k < 0 ∨ 3 < k then L else va_up L 111 (vp_updL (L 111) k.toNatClampNeg v)) rn σ) := by
  refine MetZ.of (by decide) (Nat.le_of_ble_eq_true rfl) (fun K hK hR hpo hmc hms C => ?_)
  refine z_aload_n C 1 d_M_argument_0 rfl rfl ?_
  refine z_iconst C 2 d_M_argument_1 rfl 0 (by decide) ?_
  refine zm_puti C 5 p_M_101 d_M_argument_2 rfl hn (by decide) (rfl) rfl rfl ?_
  refine z_iload_n C 6 d_M_argument_5 rfl rfl ?_
  refine z_if_lt C 9 14 d_M_argument_6 rfl (by decide) (fun h0 => ?_) (fun h0 => ?_)
  · refine z_iconst C 15 d_M_argument_14 rfl 0 (by decide) ?_
    exact z_zret C rfl (rfl) d_M_argument_15 (by rw [hpo]; exact ⟨by rw [if_pos (Or.inl h0)], rfl, by rw [if_pos (Or.inl h0)]⟩) (by rw [hmc]; omega) (by rw [hms]; omega)
  · refine z_iload_n C 10 d_M_argument_9 rfl rfl ?_
    refine z_iconst C 11 d_M_argument_10 rfl 3 (by decide) ?_
    refine z_icmp_le C 14 16 d_M_argument_11 rfl (by decide) (fun h1 => ?_) (fun h1 => ?_)
    · have hno : ¬ (k < 0 ∨ 3 < k) := fun q => q.elim h0 (fun q => Int32.not_lt.mpr h1 q)
      obtain ⟨j, hj, rfl⟩ := nI_of2 (M := 3) (n := 3) rfl h0 h1
      refine z_aload_n C 17 d_M_argument_16 rfl rfl ?_
      refine zm_get C 20 f_M_92 d_M_argument_17 rfl hn rfl ?_
      refine z_iload_n C 21 d_M_argument_20 rfl rfl ?_
      refine z_lload_n C 22 d_M_argument_21 rfl rfl ?_
      refine zm_last C 23 j d_M_argument_22 rfl hn (by decide) (by decide) (by decide) rfl (by show j < 4; omega) (by decide) ?_
      refine z_iconst C 24 d_M_argument_23 rfl 1 (by decide) ?_
      exact z_zret C rfl (rfl) d_M_argument_24 (by rw [hpo]; exact ⟨by rw [if_neg hno], rfl, by rw [if_neg hno, nI_clamp (by omega)]⟩) (by rw [hmc]; omega) (by rw [hms]; omega)
    · refine z_iconst C 15 d_M_argument_14 rfl 0 (by decide) ?_
      exact z_zret C rfl (rfl) d_M_argument_15 (by rw [hpo]; exact ⟨by rw [if_pos (Or.inr (Int32.not_le.mp h1))], rfl, by rw [if_pos (Or.inr (Int32.not_le.mp h1))]⟩) (by rw [hmc]; omega) (by rw [hms]; omega)
/-- how many of the first k functions are defined -/
def mcnt (f : Nat → Int32) : Nat → Nat
  | 0 => 0
  | k + 1 => mcnt f k + (if f k = 0 then 0 else 1)
theorem mcnt_le (f : Nat → Int32) : ∀ k, mcnt f k ≤ k
  | 0 => Nat.le_refl _
  | k + 1 => by
    have := mcnt_le f k
    unfold mcnt
    split <;> omega
theorem c_M_count (hn : 113 ≤ n) : MetZ G l y_M_count b_M_count 3 (some .int) [] 0 0 0 [.ref 85] n (mOv S A L rn σ) (fun o n' σ' => o = .returned (some (.int (nI (mcnt (A 92) 8)))) ∧ n' = n ∧ σ' = mOv S A L rn σ) := by
  refine MetZ.of (by decide) (Nat.le_of_ble_eq_true rfl) (fun K hK hR hpo hmc hms C => ?_)
  have loop : ∀ j f : Nat, f + j = 8 → Z G K n (mOv S A L rn σ) 0 0 4 [(2, .int (nI f)), (1, .int (nI (mcnt (A 92) f))), (0, .ref 85)] [] := by
    intro j
    induction j with
    | zero =>
      intro f hf
      obtain rfl : f = 8 := by omega
      refine z_iload_n C 5 d_M_count_4 rfl rfl ?_
      refine z_bipush C 7 d_M_count_5 rfl 8 (by decide) ?_
      refine z_icmp_ge C 10 28 d_M_count_7 rfl (by decide) (fun _ => ?_) (fun h9 => absurd (show (8 : Int32) ≤ nI 8 by decide) h9)
      refine z_iload_n C 29 d_M_count_28 rfl rfl ?_
      exact z_iret C rfl d_M_count_29 (by rw [hpo]; exact ⟨rfl, rfl, rfl⟩) (by rw [hmc]; omega) (by rw [hms]; omega)
    | succ j ih =>
      intro f hf
      refine z_iload_n C 5 d_M_count_4 rfl rfl ?_
      refine z_bipush C 7 d_M_count_5 rfl 8 (by decide) ?_
      refine z_icmp_ge C 10 28 d_M_count_7 rfl (by decide) (fun h9 => absurd h9 (show ¬ (8 : Int32) ≤ nI f from nI_ge (a := f) (b := 8) (by omega) (by omega))) (fun _ => ?_)
      refine z_aload_n C 11 d_M_count_10 rfl rfl ?_
      refine zm_get C 14 f_M_33 d_M_count_11 rfl hn rfl ?_
      refine z_iload_n C 15 d_M_count_14 rfl rfl ?_
      refine zm_zald C 16 f d_M_count_15 rfl hn rfl (by omega) ?_
      refine z_if_eq C 19 22 d_M_count_16 rfl (by decide) (fun hc => ?_) (fun hc => ?_)
      · refine z_iinc C 25 d_M_count_22 rfl (nI (f + 1)) rfl (z_inc f) (by decide) ?_
        refine z_goto C 4 d_M_count_25 (by decide) ?_
        have e : mcnt (A 92) (f + 1) = mcnt (A 92) f := by rw [mcnt, if_pos hc]; rfl
        have h := ih (f + 1) (by omega)
        rw [e] at h
        exact h
      · refine z_iinc C 22 d_M_count_19 rfl (nI (mcnt (A 92) f + 1)) rfl (z_inc _) (by decide) ?_
        refine z_iinc C 25 d_M_count_22 rfl (nI (f + 1)) rfl (z_inc f) (by decide) ?_
        refine z_goto C 4 d_M_count_25 (by decide) ?_
        have e : mcnt (A 92) (f + 1) = mcnt (A 92) f + 1 := by rw [mcnt, if_neg hc]
        have h := ih (f + 1) (by omega)
        rw [e] at h
        exact h
  refine z_iconst C 1 d_M_count_0 rfl 0 (by decide) ?_
  refine z_istore_n C 2 d_M_count_1 rfl (by decide) ?_
  refine z_iconst C 3 d_M_count_2 rfl 0 (by decide) ?_
  refine z_istore_n C 4 d_M_count_3 rfl (by decide) ?_
  exact loop 8 0 rfl
def mclr (f : Nat → Int32) (k : Nat) : Nat → Int32 := fun j => if j < k then 0 else f j
theorem mclr_step (A : mA) (k : Nat) : va_up (va_up A 92 (mclr (A 92) k)) 92 (upd (va_up A 92 (mclr (A 92) k) 92) k 0) = va_up A 92 (mclr (A 92) (k + 1)) := by
  rw [bx_uu, va_up_self]
  congr 1
  funext j
  unfold upd mclr
  by_cases h : j = k
  · subst h; simp
  · by_cases h2 : j < k
    · simp [h, h2, show j < k + 1 by omega]
    · simp [h, h2, show ¬ j < k + 1 by omega]
theorem mclr_0 (A : mA) : va_up A 92 (mclr (A 92) 0) = A := by
  funext i
  by_cases h : i = 92
  · subst h; rw [va_up_self]; funext j; simp [mclr]
  · rw [va_up_ne _ _ h]
theorem c_M_clear (hn : 113 ≤ n) : MetZ G l y_M_clear b_M_clear 3 (some .int) [] 1 0 0 [.ref 85] n (mOv S A L rn σ) (fun o n' σ' => o = .returned (some (.int (nI (mcnt (A 92) 8)))) ∧ n' = n ∧ σ' = mOv (upd S 0 0) (va_up A 92 (mclr (A 92) 8)) L rn σ) := by
  refine MetZ.of (by decide) (Nat.le_of_ble_eq_true rfl) (fun K hK hR hpo hmc hms C => ?_)
  have loop : ∀ j f : Nat, f + j = 8 → Z G K n (mOv (upd S 0 0) (va_up A 92 (mclr (A 92) f)) L rn σ) 0 0 12 [(2, .int (nI f)), (1, .int (nI (mcnt (A 92) 8))), (0, .ref 85)] [] := by
    intro j
    induction j with
    | zero =>
      intro f hf
      obtain rfl : f = 8 := by omega
      refine z_iload_n C 13 d_M_clear_12 rfl rfl ?_
      refine z_bipush C 15 d_M_clear_13 rfl 8 (by decide) ?_
      refine z_icmp_ge C 18 31 d_M_clear_15 rfl (by decide) (fun _ => ?_) (fun h9 => absurd (show (8 : Int32) ≤ nI 8 by decide) h9)
      refine z_iload_n C 32 d_M_clear_31 rfl rfl ?_
      exact z_iret C rfl d_M_clear_32 (by rw [hpo]; exact ⟨rfl, rfl, rfl⟩) (by rw [hmc]; omega) (by rw [hms]; omega)
    | succ j ih =>
      intro f hf
      refine z_iload_n C 13 d_M_clear_12 rfl rfl ?_
      refine z_bipush C 15 d_M_clear_13 rfl 8 (by decide) ?_
      refine z_icmp_ge C 18 31 d_M_clear_15 rfl (by decide) (fun h9 => absurd h9 (show ¬ (8 : Int32) ≤ nI f from nI_ge (a := f) (b := 8) (by omega) (by omega))) (fun _ => ?_)
      refine z_aload_n C 19 d_M_clear_18 rfl rfl ?_
      refine zm_get C 22 f_M_33 d_M_clear_19 rfl hn rfl ?_
      refine z_iload_n C 23 d_M_clear_22 rfl rfl ?_
      refine z_iconst C 24 d_M_clear_23 rfl 0 (by decide) ?_
      refine zm_zast C 25 f 0 d_M_clear_24 rfl hn rfl (by omega) (by decide) ?_
      rw [mclr_step]
      refine z_iinc C 28 d_M_clear_25 rfl (nI (f + 1)) rfl (z_inc f) (by decide) ?_
      refine z_goto C 12 d_M_clear_28 (by decide) ?_
      exact ih (f + 1) (by omega)
  refine z_aload_n C 1 d_M_clear_0 rfl rfl ?_
  refine z_iconst C 2 d_M_clear_1 rfl 0 (by decide) ?_
  refine zm_puti C 5 p_M_101 d_M_clear_2 rfl hn (by decide) (rfl) rfl rfl ?_
  refine z_aload_n C 6 d_M_clear_5 rfl rfl ?_
  refine z_call C 9 (c_M_count hn) w_M_count ini_M d_M_clear_6 rfl (z_goV (As := []) C l_M_216 w_M_count d_M_clear_6 (by omega) rfl rfl rfl) (Nat.le_of_ble_eq_true rfl) (by rw [hR]; simp only [zRm]; omega) (by rw [hR]; simp only [zRm]; omega) (by rw [hR]; simp only [zRm]; omega) (by rw [hR]; simp only [zRm]; omega) (fun v n' σ' hv => ?_) (fun x n' σ' hv => ?_)
  · obtain ⟨hv, rfl, rfl⟩ := hv
    cases hv
    refine z_istore_n C 10 d_M_clear_9 rfl (by decide) ?_
    refine z_iconst C 11 d_M_clear_10 rfl 0 (by decide) ?_
    refine z_istore_n C 12 d_M_clear_11 rfl (by decide) ?_
    have h := loop 8 0 rfl
    rw [mclr_0] at h
    exact h
  · exact absurd hv.1 (by simp)
theorem z_char {c : Int32} (h0 : ¬ c < 32) (h1 : ¬ 126 < c) : narrow .char (.int c) = .int c ∧ vp_nar .char c = c := by
  have h2 : ¬ c < 0 := fun q => h0 (Int32.lt_trans q (by decide))
  obtain ⟨j, hj, rfl⟩ := nI_of2 (M := 126) (n := 126) rfl h2 (Int32.not_lt.mp h1)
  have h := (pk_charN (q := j) (by omega)).1
  exact ⟨h, by unfold vp_nar; rw [h]⟩
/-- type(c): is it refused -/
def mbad (S : mS) (c : Int32) : Prop := c < 32 ∨ 126 < c ∨ S 1 = 150
theorem c_M_type (hn : 113 ≤ n) (c : Int32) (u z : Nat) (h1 : S 1 = nI u) (h2 : S 2 = nI z) (hzu : z ≤ u) (hu : u ≤ 150) : MetZ G l y_M_type b_M_type 2 (some .boolean) [] 0 0 0 [.ref 85, .int c] n (mOv S A L rn σ) (fun o n' σ' => n' = n ∧
    ((mbad S c ∧ o = .returned (some (.int 0)) ∧ σ' = mOv (upd S 0 0) A L rn σ) ∨ (¬ mbad S c ∧ c = 32 ∧ o = .returned (some (.int 1)) ∧ σ' = mOv (upd (upd S 0 0) 1 (nI (u + 1))) A L rn σ) ∨
     (¬ mbad S c ∧ c ≠ 32 ∧ o = .returned (some (.int 1)) ∧ σ' = mOv (upd (upd (upd S 0 0) 1 (nI (u + 1))) 2 (nI (z + 1))) (va_up A 86 (upd (A 86) z c)) L rn σ))) := by
  refine MetZ.of (by decide) (Nat.le_of_ble_eq_true rfl) (fun K hK hR hpo hmc hms C => ?_)
  have no : mbad S c → Z G K n (mOv (upd S 0 0) A L rn σ) 0 0 27 (lv_args 0 [.ref 85, .int c]) [] := fun hb => by
    refine z_iconst C 28 d_M_type_27 rfl 0 (by decide) ?_
    exact z_zret C rfl (rfl) d_M_type_28 (by rw [hpo]; exact ⟨rfl, Or.inl ⟨hb, rfl, rfl⟩⟩) (by rw [hmc]; omega) (by rw [hms]; omega)
  refine z_aload_n C 1 d_M_type_0 rfl rfl ?_
  refine z_iconst C 2 d_M_type_1 rfl 0 (by decide) ?_
  refine zm_puti C 5 p_M_101 d_M_type_2 rfl hn (by decide) (rfl) rfl rfl ?_
  refine z_iload_n C 6 d_M_type_5 rfl rfl ?_
  refine z_bipush C 8 d_M_type_6 rfl 32 (by decide) ?_
  refine z_icmp_lt C 11 27 d_M_type_8 rfl (by decide) (fun ha => ?_) (fun ha => ?_)
  · exact no (Or.inl ha)
  refine z_iload_n C 12 d_M_type_11 rfl rfl ?_
  refine z_bipush C 14 d_M_type_12 rfl 126 (by decide) ?_
  refine z_icmp_gt C 17 27 d_M_type_14 rfl (by decide) (fun hb => ?_) (fun hb => ?_)
  · exact no (Or.inr (Or.inl hb))
  refine z_aload_n C 18 d_M_type_17 rfl rfl ?_
  refine zm_get C 21 f_M_207 d_M_type_18 rfl hn rfl ?_
  refine z_sipush C 24 d_M_type_21 rfl 150 (by decide) ?_
  refine z_icmp_ne C 27 29 d_M_type_24 rfl (by decide) (fun hc => ?_) (fun hc => ?_)
  · have hc : ¬ S 1 = 150 := hc
    have hg : ¬ mbad S c := fun q => q.elim ha (fun q => q.elim hb hc)
    have hu2 : u < 150 := by
      rcases Nat.lt_or_ge u 150 with h | h
      · exact h
      · obtain rfl : u = 150 := by omega
        exact absurd h1 hc
    have e1 : S 1 + 1 = nI (u + 1) := by rw [h1]; exact (nI_succ u).symm
    have e2 : S 2 + 1 = nI (z + 1) := by rw [h2]; exact (nI_succ z).symm
    refine z_aload_n C 30 d_M_type_29 rfl rfl ?_
    refine z_dup C 31 d_M_type_30 rfl rfl ?_
    refine zm_get C 34 f_M_207 d_M_type_31 rfl hn rfl ?_
    refine z_iconst C 35 d_M_type_34 rfl 1 (by decide) ?_
    refine z_iadd C 36 d_M_type_35 rfl ?_
    rw [show (upd S 0 0 1 + 1 : Int32) = nI (u + 1) from e1]
    refine zm_puti C 39 p_M_207 d_M_type_36 rfl hn (by decide) (rfl) rfl rfl ?_
    refine z_iload_n C 40 d_M_type_39 rfl rfl ?_
    refine z_bipush C 42 d_M_type_40 rfl 32 (by decide) ?_
    refine z_icmp_ne C 45 47 d_M_type_42 rfl (by decide) (fun hd => ?_) (fun hd => ?_)
    · refine z_aload_n C 48 d_M_type_47 rfl rfl ?_
      refine zm_get C 51 f_M_7 d_M_type_48 rfl hn rfl ?_
      refine z_aload_n C 52 d_M_type_51 rfl rfl ?_
      refine zm_get C 55 f_M_111 d_M_type_52 rfl hn rfl ?_
      refine z_iload_n C 56 d_M_type_55 rfl rfl ?_
      refine zm_cast C 57 z c d_M_type_56 rfl hn (show S 2 = nI z from h2) (by omega) (z_char ha hb).2 ?_
      refine z_aload_n C 58 d_M_type_57 rfl rfl ?_
      refine z_dup C 59 d_M_type_58 rfl rfl ?_
      refine zm_get C 62 f_M_111 d_M_type_59 rfl hn rfl ?_
      refine z_iconst C 63 d_M_type_62 rfl 1 (by decide) ?_
      refine z_iadd C 64 d_M_type_63 rfl ?_
      rw [show (upd (upd S 0 0) 1 (nI (u + 1)) 2 + 1 : Int32) = nI (z + 1) from e2]
      refine zm_puti C 67 p_M_111 d_M_type_64 rfl hn (by decide) (rfl) rfl rfl ?_
      refine z_iconst C 68 d_M_type_67 rfl 1 (by decide) ?_
      exact z_zret C rfl (rfl) d_M_type_68 (by rw [hpo]; exact ⟨rfl, Or.inr (Or.inr ⟨hg, hd, rfl, rfl⟩)⟩) (by rw [hmc]; omega) (by rw [hms]; omega)
    · refine z_iconst C 46 d_M_type_45 rfl 1 (by decide) ?_
      exact z_zret C rfl (rfl) d_M_type_46 (by rw [hpo]; exact ⟨rfl, Or.inr (Or.inl ⟨hg, hd, rfl, rfl⟩)⟩) (by rw [hmc]; omega) (by rw [hms]; omega)
  · exact no (Or.inr (Or.inr hc))
/-- cell(i, j) -/
def mcol (S : mS) (j : Int32) : Int32 := if S 46 = 1 then 0 else j
def mcell (S : mS) (L : mL) (i j : Int32) : Int64 := if S 46 < 1 ∨ i < 0 ∨ S 48 ≤ i ∨ mcol S j < 0 ∨ S 49 ≤ mcol S j then 0 else L 112 (i.toNatClampNeg * (S 49).toNatClampNeg + (mcol S j).toNatClampNeg)
theorem c_M_cell (hn : 113 ≤ n) (i j : Int32) (r c : Nat) (hA : ¬ S 46 < 1 → S 48 = nI r ∧ S 49 = nI c ∧ r ≤ 40 ∧ c ≤ 40 ∧ r * c ≤ 40) : MetZ G l y_M_cell b_M_cell 4 (some .long) [] 0 0 0 [.ref 85, .int i, .int j] n (mOv S A L rn σ) (fun o n' σ' => o = .returned (some (.long (mcell S L i j))) ∧ n' = n ∧ σ' = mOv (upd S 0 0) A L rn σ) := by
  refine MetZ.of (by decide) (Nat.le_of_ble_eq_true rfl) (fun K hK hR hpo hmc hms C => ?_)
  have no : ∀ lv, (S 46 < 1 ∨ i < 0 ∨ S 48 ≤ i ∨ mcol S j < 0 ∨ S 49 ≤ mcol S j) → Z G K n (mOv (upd S 0 0) A L rn σ) 0 0 51 lv [] := fun lv hb => by
    refine z_lconst C 52 d_M_cell_51 rfl 0 (by decide) ?_
    exact z_lret C rfl d_M_cell_52 (by rw [hpo]; exact ⟨by rw [mcell, if_pos hb], rfl, rfl⟩) (by rw [hmc]; omega) (by rw [hms]; omega)
  have go : Z G K n (mOv (upd S 0 0) A L rn σ) 0 0 19 [(3, .int (mcol S j)), (0, .ref 85), (1, .int i), (2, .int j)] [] := by
    refine z_aload_n C 20 d_M_cell_19 rfl rfl ?_
    refine zm_get C 23 f_M_95 d_M_cell_20 rfl hn rfl ?_
    refine z_iconst C 24 d_M_cell_23 rfl 1 (by decide) ?_
    refine z_icmp_lt C 27 51 d_M_cell_24 rfl (by decide) (fun a1 => ?_) (fun a1 => ?_)
    · exact no _ (Or.inl a1)
    refine z_iload_n C 28 d_M_cell_27 rfl rfl ?_
    refine z_if_lt C 31 51 d_M_cell_28 rfl (by decide) (fun a2 => ?_) (fun a2 => ?_)
    · exact no _ (Or.inr (Or.inl a2))
    refine z_iload_n C 32 d_M_cell_31 rfl rfl ?_
    refine z_aload_n C 33 d_M_cell_32 rfl rfl ?_
    refine zm_get C 36 f_M_291 d_M_cell_33 rfl hn rfl ?_
    refine z_icmp_ge C 39 51 d_M_cell_36 rfl (by decide) (fun a3 => ?_) (fun a3 => ?_)
    · exact no _ (Or.inr (Or.inr (Or.inl a3)))
    refine z_iload_n C 40 d_M_cell_39 rfl rfl ?_
    refine z_if_lt C 43 51 d_M_cell_40 rfl (by decide) (fun a4 => ?_) (fun a4 => ?_)
    · exact no _ (Or.inr (Or.inr (Or.inr (Or.inl a4))))
    refine z_iload_n C 44 d_M_cell_43 rfl rfl ?_
    refine z_aload_n C 45 d_M_cell_44 rfl rfl ?_
    refine zm_get C 48 f_M_294 d_M_cell_45 rfl hn rfl ?_
    refine z_icmp_lt C 51 53 d_M_cell_48 rfl (by decide) (fun a5 => ?_) (fun a5 => ?_)
    · have a1 : ¬ S 46 < 1 := a1
      obtain ⟨h8, h9, hr, hc, hrc⟩ := hA a1
      have a3 : ¬ S 48 ≤ i := a3
      have a5 : mcol S j < S 49 := a5
      have hno : ¬ (S 46 < 1 ∨ i < 0 ∨ S 48 ≤ i ∨ mcol S j < 0 ∨ S 49 ≤ mcol S j) := fun q => q.elim a1 (fun q => q.elim a2 (fun q => q.elim a3 (fun q => q.elim a4 (fun q => Int32.not_le.mpr a5 q))))
      obtain ⟨ii, hi, ei⟩ := nI_of a2
      obtain ⟨jj, hj, ej⟩ := nI_of a4
      have hi2 : ii < r := by
        rw [ei, h8] at a3
        exact Nat.lt_of_not_le (fun q => a3 ((nI_leI (by omega) (by omega)).mpr q))
      have hj2 : jj < c := by
        rw [ej, h9] at a5
        exact (nI_ltI (by omega) (by omega)).mp a5
      have hb : ii * c + jj < 40 := by
        have h1 : (ii + 1) * c ≤ r * c := Nat.mul_le_mul_right c hi2
        rw [Nat.succ_mul] at h1
        omega
      have ex : i * upd S 0 0 49 + mcol S j = nI (ii * c + jj) := by
        rw [show upd S 0 0 49 = nI c from h9, ei, ej, pk_mul, nI_add]
      refine z_aload_n C 54 d_M_cell_53 rfl rfl ?_
      refine zm_get C 57 f_M_98 d_M_cell_54 rfl hn rfl ?_
      refine z_iload_n C 58 d_M_cell_57 rfl rfl ?_
      refine z_aload_n C 59 d_M_cell_58 rfl rfl ?_
      refine zm_get C 62 f_M_294 d_M_cell_59 rfl hn rfl ?_
      refine z_imul C 63 d_M_cell_62 rfl ?_
      refine z_iload_n C 64 d_M_cell_63 rfl rfl ?_
      refine z_iadd C 65 d_M_cell_64 rfl ?_
      refine zm_lald C 66 (ii * c + jj) d_M_cell_65 rfl hn (by decide) (by decide) (by decide) ex (by show ii * c + jj < 40; exact hb) (by decide) ?_
      exact z_lret C rfl d_M_cell_66 (by rw [hpo]; exact ⟨by rw [mcell, if_neg hno, h9, ei, ej, nI_clamp (by omega), nI_clamp (by omega), nI_clamp (by omega)], rfl, rfl⟩) (by rw [hmc]; omega) (by rw [hms]; omega)
    · exact no _ (Or.inr (Or.inr (Or.inr (Or.inr (Int32.not_lt.mp a5)))))
  refine z_aload_n C 1 d_M_cell_0 rfl rfl ?_
  refine z_iconst C 2 d_M_cell_1 rfl 0 (by decide) ?_
  refine zm_puti C 5 p_M_101 d_M_cell_2 rfl hn (by decide) (rfl) rfl rfl ?_
  refine z_aload_n C 6 d_M_cell_5 rfl rfl ?_
  refine zm_get C 9 f_M_95 d_M_cell_6 rfl hn rfl ?_
  refine z_iconst C 10 d_M_cell_9 rfl 1 (by decide) ?_
  refine z_icmp_ne C 13 17 d_M_cell_10 rfl (by decide) (fun hk => ?_) (fun hk => ?_)
  · refine z_iload_n C 18 d_M_cell_17 rfl rfl ?_
    refine z_istore_n C 19 d_M_cell_18 rfl (by decide) ?_
    have e : mcol S j = j := by rw [mcol, if_neg (show ¬ S 46 = 1 from hk)]
    rw [e] at go
    exact go
  · refine z_iconst C 14 d_M_cell_13 rfl 0 (by decide) ?_
    refine z_goto C 18 d_M_cell_14 (by decide) ?_
    refine z_istore_n C 19 d_M_cell_18 rfl (by decide) ?_
    have e : mcol S j = 0 := by rw [mcol, if_pos (show S 46 = 1 from hk)]
    rw [e] at go
    exact go
end MSI
