/-! Arrays.fill(long[], long), by its code -/
abbrev y_fillL : MethodName := ⟨"java/util/Arrays", "fill", "([JJ)V"⟩
abbrev b_fillL : ByteArray := prog_25_method_101_code
theorem d_fillL_0 : decode b_fillL 0 = .ok (.iconst 0, 1) := by decide +kernel
theorem d_fillL_1 : decode b_fillL 1 = .ok (.istore_n 3, 1) := by decide +kernel
theorem d_fillL_2 : decode b_fillL 2 = .ok (.aload_n 0, 1) := by decide +kernel
theorem d_fillL_3 : decode b_fillL 3 = .ok (.arraylength, 1) := by decide +kernel
theorem d_fillL_4 : decode b_fillL 4 = .ok (.istore 4, 2) := by decide +kernel
theorem d_fillL_6 : decode b_fillL 6 = .ok (.iload_n 3, 1) := by decide +kernel
theorem d_fillL_7 : decode b_fillL 7 = .ok (.iload 4, 2) := by decide +kernel
theorem d_fillL_9 : decode b_fillL 9 = .ok (.if_icmp .ge 13, 3) := by decide +kernel
theorem d_fillL_12 : decode b_fillL 12 = .ok (.aload_n 0, 1) := by decide +kernel
theorem d_fillL_13 : decode b_fillL 13 = .ok (.iload_n 3, 1) := by decide +kernel
theorem d_fillL_14 : decode b_fillL 14 = .ok (.lload_n 1, 1) := by decide +kernel
theorem d_fillL_15 : decode b_fillL 15 = .ok (.lastore, 1) := by decide +kernel
theorem d_fillL_16 : decode b_fillL 16 = .ok (.iinc 3 1, 3) := by decide +kernel
theorem d_fillL_19 : decode b_fillL 19 = .ok (.goto (-13), 3) := by decide +kernel
theorem d_fillL_22 : decode b_fillL 22 = .ok (.return_, 1) := by decide +kernel
theorem w_fillL : zWd y_fillL b_fillL 5 none [] ∈ zTb := zt4 15 (by decide +kernel) rfl
theorem lw_O_57 : Cond.methodLink "SoleArrays$Store" 57 ⟨"java/util/Arrays", "fill", "([JJ)V"⟩ ∈ zTb := zt4 13 (by decide +kernel) rfl
theorem ls_fillL : Cond.static ⟨"java/util/Arrays", "fill", "([JJ)V"⟩ ∈ zTb := zt4 14 (by decide +kernel) rfl
theorem l_O_57 : zLS "SoleArrays$Store" 57 y_fillL 2 := ⟨lw_O_57, ls_fillL, ini_Arr, ⟨by decide, by decide⟩, by decide +kernel⟩
theorem fl_updL {f : Nat → Int64} {k : Nat} {x : Int64} : vp_updL (fl f k x) k x = fl f (k + 1) x := by
  funext j
  unfold vp_updL fl
  by_cases h : j = k
  · rw [if_pos h, if_pos (by omega)]
  · rw [if_neg h]
    by_cases g : j < k
    · rw [if_pos g, if_pos (by omega)]
    · rw [if_neg g, if_neg (by omega)]
section FLL
variable {G : zG} {l : Launch} {n i len : Nat} {σ : zS} {f : Nat → Int64}
theorem c_fillL (hi : i < n) (hσ : σ i = .inl (1, len, .inr (.inl f))) (hl : len < 100000) (x : Int64) : MetZ G l y_fillL b_fillL 5 none [] 0 0 0 [.ref i, .long x] n σ (fun o n' σ' => o = .returned none ∧ n' = n ∧ σ' = va_up σ i (.inl (1, len, .inr (.inl (fl f len x))))) := by
  refine MetZ.of (by decide) (Nat.le_of_ble_eq_true rfl) (fun K hK hR hpo hmc hms C => ?_)
  have loop : ∀ m k, m + k = len → Z G K n (va_up σ i (.inl (1, len, .inr (.inl (fl f k x))))) 0 0 6 [(3, .int (nI k)), (4, .int (nI len)), (0, .ref i), (1, .long x)] [] := fun m => by
    induction m with
    | zero =>
      intro k hk
      obtain rfl : k = len := by omega
      refine z_iload_n C 7 d_fillL_6 rfl rfl ?_
      refine z_iload C 9 d_fillL_7 rfl rfl ?_
      refine z_icmp_ge C 12 22 d_fillL_9 rfl (by decide) (fun _ => ?_) (fun h9 => absurd (Int32.le_refl _) h9)
      exact z_vret C rfl d_fillL_22 (by rw [hpo]; exact ⟨rfl, rfl, rfl⟩) (by rw [hmc]; omega) (by rw [hms]; omega)
    | succ m ih =>
      intro k hk
      refine z_iload_n C 7 d_fillL_6 rfl rfl ?_
      refine z_iload C 9 d_fillL_7 rfl rfl ?_
      refine z_icmp_ge C 12 22 d_fillL_9 rfl (by decide) (fun h9 => absurd ((nI_leI (by omega) (by omega)).mp h9) (by omega)) (fun _ => ?_)
      refine z_aload_n C 13 d_fillL_12 rfl rfl ?_
      refine z_iload_n C 14 d_fillL_13 rfl rfl ?_
      refine z_lload_n C 15 d_fillL_14 rfl rfl ?_
      refine z_last C 16 k d_fillL_15 rfl hi (va_up_self _ _ _) rfl (by omega) (by omega) ?_
      rw [va_up2, fl_updL]
      refine z_iinc C 19 d_fillL_16 rfl (nI (k + 1)) rfl (z_inc k) (by decide) ?_
      refine z_goto C 6 d_fillL_19 (by decide) ?_
      exact ih (k + 1) (by omega)
  refine z_iconst C 1 d_fillL_0 rfl 0 (by decide) ?_
  refine z_istore_n C 2 d_fillL_1 rfl (by decide) ?_
  refine z_aload_n C 3 d_fillL_2 rfl rfl ?_
  refine z_arrlen C 4 (t := 1) rfl d_fillL_3 rfl hi hσ rfl ?_
  refine z_istore C 6 d_fillL_4 rfl (by decide) ?_
  have k := loop len 0 (by omega)
  rw [fl_0, va_same hσ] at k
  refine Z.lvs (fun q hq => ?_) k
  have hq : q ∈ [((4 : Nat), Value.int (nI len)), (3, .int (nI 0)), (0, .ref i), (1, .long x)] := by
    simp only [List.mem_cons, List.not_mem_nil, or_false] at hq ⊢
    rcases hq with h | h | h | h
    · exact Or.inr (Or.inl h)
    · exact Or.inl h
    · exact Or.inr (Or.inr (Or.inl h))
    · exact Or.inr (Or.inr (Or.inr h))
  exact hq
end FLL
theorem d_O_empty_0 : decode b_O_empty 0 = .ok (.iconst 0, 1) := by decide +kernel
theorem d_O_empty_1 : decode b_O_empty 1 = .ok (.istore_n 1, 1) := by decide +kernel
theorem d_O_empty_2 : decode b_O_empty 2 = .ok (.iload_n 1, 1) := by decide +kernel
theorem d_O_empty_3 : decode b_O_empty 3 = .ok (.bipush 8, 2) := by decide +kernel
theorem d_O_empty_5 : decode b_O_empty 5 = .ok (.if_icmp .ge 16, 3) := by decide +kernel
theorem d_O_empty_8 : decode b_O_empty 8 = .ok (.aload_n 0, 1) := by decide +kernel
theorem d_O_empty_9 : decode b_O_empty 9 = .ok (.getfield 30, 3) := by decide +kernel
theorem d_O_empty_12 : decode b_O_empty 12 = .ok (.iload_n 1, 1) := by decide +kernel
theorem d_O_empty_13 : decode b_O_empty 13 = .ok (.iconst 0, 1) := by decide +kernel
theorem d_O_empty_14 : decode b_O_empty 14 = .ok (.bastore, 1) := by decide +kernel
theorem d_O_empty_15 : decode b_O_empty 15 = .ok (.iinc 1 1, 3) := by decide +kernel
theorem d_O_empty_18 : decode b_O_empty 18 = .ok (.goto (-16), 3) := by decide +kernel
theorem d_O_empty_21 : decode b_O_empty 21 = .ok (.aload_n 0, 1) := by decide +kernel
theorem d_O_empty_22 : decode b_O_empty 22 = .ok (.iconst 0, 1) := by decide +kernel
theorem d_O_empty_23 : decode b_O_empty 23 = .ok (.putfield 34, 3) := by decide +kernel
theorem d_O_empty_26 : decode b_O_empty 26 = .ok (.aload_n 0, 1) := by decide +kernel
theorem d_O_empty_27 : decode b_O_empty 27 = .ok (.iconst 0, 1) := by decide +kernel
theorem d_O_empty_28 : decode b_O_empty 28 = .ok (.putfield 18, 3) := by decide +kernel
theorem d_O_empty_31 : decode b_O_empty 31 = .ok (.aload_n 0, 1) := by decide +kernel
theorem d_O_empty_32 : decode b_O_empty 32 = .ok (.iconst 0, 1) := by decide +kernel
theorem d_O_empty_33 : decode b_O_empty 33 = .ok (.putfield 22, 3) := by decide +kernel
theorem d_O_empty_36 : decode b_O_empty 36 = .ok (.return_, 1) := by decide +kernel
theorem d_O_firstFree_0 : decode b_O_firstFree 0 = .ok (.iconst 0, 1) := by decide +kernel
theorem d_O_firstFree_1 : decode b_O_firstFree 1 = .ok (.istore_n 1, 1) := by decide +kernel
theorem d_O_firstFree_2 : decode b_O_firstFree 2 = .ok (.iload_n 1, 1) := by decide +kernel
theorem d_O_firstFree_3 : decode b_O_firstFree 3 = .ok (.bipush 8, 2) := by decide +kernel
theorem d_O_firstFree_5 : decode b_O_firstFree 5 = .ok (.if_icmp .ge 20, 3) := by decide +kernel
theorem d_O_firstFree_8 : decode b_O_firstFree 8 = .ok (.aload_n 0, 1) := by decide +kernel
theorem d_O_firstFree_9 : decode b_O_firstFree 9 = .ok (.getfield 30, 3) := by decide +kernel
theorem d_O_firstFree_12 : decode b_O_firstFree 12 = .ok (.iload_n 1, 1) := by decide +kernel
theorem d_O_firstFree_13 : decode b_O_firstFree 13 = .ok (.baload, 1) := by decide +kernel
theorem d_O_firstFree_14 : decode b_O_firstFree 14 = .ok (.ifCond .ne 5, 3) := by decide +kernel
theorem d_O_firstFree_17 : decode b_O_firstFree 17 = .ok (.iload_n 1, 1) := by decide +kernel
theorem d_O_firstFree_18 : decode b_O_firstFree 18 = .ok (.ireturn, 1) := by decide +kernel
theorem d_O_firstFree_19 : decode b_O_firstFree 19 = .ok (.iinc 1 1, 3) := by decide +kernel
theorem d_O_firstFree_22 : decode b_O_firstFree 22 = .ok (.goto (-20), 3) := by decide +kernel
theorem d_O_firstFree_25 : decode b_O_firstFree 25 = .ok (.iconst (-1), 1) := by decide +kernel
theorem d_O_firstFree_26 : decode b_O_firstFree 26 = .ok (.ireturn, 1) := by decide +kernel
theorem d_O_make_0 : decode b_O_make 0 = .ok (.lload_n 1, 1) := by decide +kernel
theorem d_O_make_1 : decode b_O_make 1 = .ok (.lconst 0, 1) := by decide +kernel
theorem d_O_make_2 : decode b_O_make 2 = .ok (.lcmp, 1) := by decide +kernel
theorem d_O_make_3 : decode b_O_make 3 = .ok (.ifCond .lt 9, 3) := by decide +kernel
theorem d_O_make_6 : decode b_O_make 6 = .ok (.lload_n 3, 1) := by decide +kernel
theorem d_O_make_7 : decode b_O_make 7 = .ok (.lconst 0, 1) := by decide +kernel
theorem d_O_make_8 : decode b_O_make 8 = .ok (.lcmp, 1) := by decide +kernel
theorem d_O_make_9 : decode b_O_make 9 = .ok (.ifCond .ge 13, 3) := by decide +kernel
theorem d_O_make_12 : decode b_O_make 12 = .ok (.new 37, 3) := by decide +kernel
theorem d_O_make_15 : decode b_O_make 15 = .ok (.dup, 1) := by decide +kernel
theorem d_O_make_16 : decode b_O_make 16 = .ok (.ldc 39, 2) := by decide +kernel
theorem d_O_make_18 : decode b_O_make 18 = .ok (.invokespecial 41, 3) := by decide +kernel
theorem d_O_make_21 : decode b_O_make 21 = .ok (.athrow, 1) := by decide +kernel
theorem d_O_make_22 : decode b_O_make 22 = .ok (.lload_n 1, 1) := by decide +kernel
theorem d_O_make_23 : decode b_O_make 23 = .ok (.ldc2_w 44, 3) := by decide +kernel
theorem d_O_make_26 : decode b_O_make 26 = .ok (.lcmp, 1) := by decide +kernel
theorem d_O_make_27 : decode b_O_make 27 = .ok (.ifCond .gt 21, 3) := by decide +kernel
theorem d_O_make_30 : decode b_O_make 30 = .ok (.lload_n 3, 1) := by decide +kernel
theorem d_O_make_31 : decode b_O_make 31 = .ok (.ldc2_w 44, 3) := by decide +kernel
theorem d_O_make_34 : decode b_O_make 34 = .ok (.lcmp, 1) := by decide +kernel
theorem d_O_make_35 : decode b_O_make 35 = .ok (.ifCond .gt 13, 3) := by decide +kernel
theorem d_O_make_38 : decode b_O_make 38 = .ok (.lload_n 1, 1) := by decide +kernel
theorem d_O_make_39 : decode b_O_make 39 = .ok (.lload_n 3, 1) := by decide +kernel
theorem d_O_make_40 : decode b_O_make 40 = .ok (.lmul, 1) := by decide +kernel
theorem d_O_make_41 : decode b_O_make 41 = .ok (.ldc2_w 44, 3) := by decide +kernel
theorem d_O_make_44 : decode b_O_make 44 = .ok (.lcmp, 1) := by decide +kernel
theorem d_O_make_45 : decode b_O_make 45 = .ok (.ifCond .le 13, 3) := by decide +kernel
theorem d_O_make_48 : decode b_O_make 48 = .ok (.new 46, 3) := by decide +kernel
theorem d_O_make_51 : decode b_O_make 51 = .ok (.dup, 1) := by decide +kernel
theorem d_O_make_52 : decode b_O_make 52 = .ok (.ldc 48, 2) := by decide +kernel
theorem d_O_make_54 : decode b_O_make 54 = .ok (.invokespecial 50, 3) := by decide +kernel
theorem d_O_make_57 : decode b_O_make 57 = .ok (.athrow, 1) := by decide +kernel
theorem d_O_make_58 : decode b_O_make 58 = .ok (.aload_n 0, 1) := by decide +kernel
theorem d_O_make_59 : decode b_O_make 59 = .ok (.invokevirtual 51, 3) := by decide +kernel
theorem d_O_make_62 : decode b_O_make 62 = .ok (.istore 5, 2) := by decide +kernel
theorem d_O_make_64 : decode b_O_make 64 = .ok (.iload 5, 2) := by decide +kernel
theorem d_O_make_66 : decode b_O_make 66 = .ok (.iconst (-1), 1) := by decide +kernel
theorem d_O_make_67 : decode b_O_make 67 = .ok (.if_icmp .ne 13, 3) := by decide +kernel
theorem d_O_make_70 : decode b_O_make 70 = .ok (.new 46, 3) := by decide +kernel
theorem d_O_make_73 : decode b_O_make 73 = .ok (.dup, 1) := by decide +kernel
theorem d_O_make_74 : decode b_O_make 74 = .ok (.ldc 55, 2) := by decide +kernel
theorem d_O_make_76 : decode b_O_make 76 = .ok (.invokespecial 50, 3) := by decide +kernel
theorem d_O_make_79 : decode b_O_make 79 = .ok (.athrow, 1) := by decide +kernel
theorem d_O_make_80 : decode b_O_make 80 = .ok (.aload_n 0, 1) := by decide +kernel
theorem d_O_make_81 : decode b_O_make 81 = .ok (.getfield 30, 3) := by decide +kernel
theorem d_O_make_84 : decode b_O_make 84 = .ok (.iload 5, 2) := by decide +kernel
theorem d_O_make_86 : decode b_O_make 86 = .ok (.iconst 1, 1) := by decide +kernel
theorem d_O_make_87 : decode b_O_make 87 = .ok (.bastore, 1) := by decide +kernel
theorem d_O_make_88 : decode b_O_make 88 = .ok (.aload_n 0, 1) := by decide +kernel
theorem d_O_make_89 : decode b_O_make 89 = .ok (.getfield 9, 3) := by decide +kernel
theorem d_O_make_92 : decode b_O_make 92 = .ok (.iload 5, 2) := by decide +kernel
theorem d_O_make_94 : decode b_O_make 94 = .ok (.lload_n 1, 1) := by decide +kernel
theorem d_O_make_95 : decode b_O_make 95 = .ok (.l2i, 1) := by decide +kernel
theorem d_O_make_96 : decode b_O_make 96 = .ok (.iastore, 1) := by decide +kernel
theorem d_O_make_97 : decode b_O_make 97 = .ok (.aload_n 0, 1) := by decide +kernel
theorem d_O_make_98 : decode b_O_make 98 = .ok (.getfield 15, 3) := by decide +kernel
theorem d_O_make_101 : decode b_O_make 101 = .ok (.iload 5, 2) := by decide +kernel
theorem d_O_make_103 : decode b_O_make 103 = .ok (.lload_n 3, 1) := by decide +kernel
theorem d_O_make_104 : decode b_O_make 104 = .ok (.l2i, 1) := by decide +kernel
theorem d_O_make_105 : decode b_O_make 105 = .ok (.iastore, 1) := by decide +kernel
theorem d_O_make_106 : decode b_O_make 106 = .ok (.aload_n 0, 1) := by decide +kernel
theorem d_O_make_107 : decode b_O_make 107 = .ok (.getfield 27, 3) := by decide +kernel
theorem d_O_make_110 : decode b_O_make 110 = .ok (.iload 5, 2) := by decide +kernel
theorem d_O_make_112 : decode b_O_make 112 = .ok (.aaload, 1) := by decide +kernel
theorem d_O_make_113 : decode b_O_make 113 = .ok (.lconst 0, 1) := by decide +kernel
theorem d_O_make_114 : decode b_O_make 114 = .ok (.invokestatic 57, 3) := by decide +kernel
theorem d_O_make_117 : decode b_O_make 117 = .ok (.aload_n 0, 1) := by decide +kernel
theorem d_O_make_118 : decode b_O_make 118 = .ok (.dup, 1) := by decide +kernel
theorem d_O_make_119 : decode b_O_make 119 = .ok (.getfield 34, 3) := by decide +kernel
theorem d_O_make_122 : decode b_O_make 122 = .ok (.iconst 1, 1) := by decide +kernel
theorem d_O_make_123 : decode b_O_make 123 = .ok (.iadd, 1) := by decide +kernel
theorem d_O_make_124 : decode b_O_make 124 = .ok (.putfield 34, 3) := by decide +kernel
theorem d_O_make_127 : decode b_O_make 127 = .ok (.aload_n 0, 1) := by decide +kernel
theorem d_O_make_128 : decode b_O_make 128 = .ok (.dup, 1) := by decide +kernel
theorem d_O_make_129 : decode b_O_make 129 = .ok (.getfield 18, 3) := by decide +kernel
theorem d_O_make_132 : decode b_O_make 132 = .ok (.iconst 1, 1) := by decide +kernel
theorem d_O_make_133 : decode b_O_make 133 = .ok (.iadd, 1) := by decide +kernel
theorem d_O_make_134 : decode b_O_make 134 = .ok (.putfield 18, 3) := by decide +kernel
theorem d_O_make_137 : decode b_O_make 137 = .ok (.aload_n 0, 1) := by decide +kernel
theorem d_O_make_138 : decode b_O_make 138 = .ok (.aload_n 0, 1) := by decide +kernel
theorem d_O_make_139 : decode b_O_make 139 = .ok (.getfield 22, 3) := by decide +kernel
theorem d_O_make_142 : decode b_O_make 142 = .ok (.aload_n 0, 1) := by decide +kernel
theorem d_O_make_143 : decode b_O_make 143 = .ok (.getfield 34, 3) := by decide +kernel
theorem d_O_make_146 : decode b_O_make 146 = .ok (.invokestatic 63, 3) := by decide +kernel
theorem d_O_make_149 : decode b_O_make 149 = .ok (.putfield 22, 3) := by decide +kernel
theorem d_O_make_152 : decode b_O_make 152 = .ok (.iload 5, 2) := by decide +kernel
theorem d_O_make_154 : decode b_O_make 154 = .ok (.ireturn, 1) := by decide +kernel
theorem d_O_giveUp_0 : decode b_O_giveUp 0 = .ok (.aload_n 0, 1) := by decide +kernel
theorem d_O_giveUp_1 : decode b_O_giveUp 1 = .ok (.getfield 30, 3) := by decide +kernel
theorem d_O_giveUp_4 : decode b_O_giveUp 4 = .ok (.iload_n 1, 1) := by decide +kernel
theorem d_O_giveUp_5 : decode b_O_giveUp 5 = .ok (.iconst 0, 1) := by decide +kernel
theorem d_O_giveUp_6 : decode b_O_giveUp 6 = .ok (.bastore, 1) := by decide +kernel
theorem d_O_giveUp_7 : decode b_O_giveUp 7 = .ok (.aload_n 0, 1) := by decide +kernel
theorem d_O_giveUp_8 : decode b_O_giveUp 8 = .ok (.dup, 1) := by decide +kernel
theorem d_O_giveUp_9 : decode b_O_giveUp 9 = .ok (.getfield 34, 3) := by decide +kernel
theorem d_O_giveUp_12 : decode b_O_giveUp 12 = .ok (.iconst 1, 1) := by decide +kernel
theorem d_O_giveUp_13 : decode b_O_giveUp 13 = .ok (.isub, 1) := by decide +kernel
theorem d_O_giveUp_14 : decode b_O_giveUp 14 = .ok (.putfield 34, 3) := by decide +kernel
theorem d_O_giveUp_17 : decode b_O_giveUp 17 = .ok (.return_, 1) := by decide +kernel
theorem d_O_put_0 : decode b_O_put 0 = .ok (.aload_n 0, 1) := by decide +kernel
theorem d_O_put_1 : decode b_O_put 1 = .ok (.getfield 27, 3) := by decide +kernel
theorem d_O_put_4 : decode b_O_put 4 = .ok (.iload_n 1, 1) := by decide +kernel
theorem d_O_put_5 : decode b_O_put 5 = .ok (.aaload, 1) := by decide +kernel
theorem d_O_put_6 : decode b_O_put 6 = .ok (.aload_n 0, 1) := by decide +kernel
theorem d_O_put_7 : decode b_O_put 7 = .ok (.iload_n 1, 1) := by decide +kernel
theorem d_O_put_8 : decode b_O_put 8 = .ok (.lload_n 2, 1) := by decide +kernel
theorem d_O_put_9 : decode b_O_put 9 = .ok (.lload 4, 2) := by decide +kernel
theorem d_O_put_11 : decode b_O_put 11 = .ok (.invokevirtual 79, 3) := by decide +kernel
theorem d_O_put_14 : decode b_O_put 14 = .ok (.lload 6, 2) := by decide +kernel
theorem d_O_put_16 : decode b_O_put 16 = .ok (.lastore, 1) := by decide +kernel
theorem d_O_put_17 : decode b_O_put 17 = .ok (.return_, 1) := by decide +kernel
theorem d_U_arrayOf_0 : decode b_U_arrayOf 0 = .ok (.aload_n 0, 1) := by decide +kernel
theorem d_U_arrayOf_1 : decode b_U_arrayOf 1 = .ok (.getfield 27, 3) := by decide +kernel
theorem d_U_arrayOf_4 : decode b_U_arrayOf 4 = .ok (.iload_n 2, 1) := by decide +kernel
theorem d_U_arrayOf_5 : decode b_U_arrayOf 5 = .ok (.aaload, 1) := by decide +kernel
theorem d_U_arrayOf_6 : decode b_U_arrayOf 6 = .ok (.aload_n 1, 1) := by decide +kernel
theorem d_U_arrayOf_7 : decode b_U_arrayOf 7 = .ok (.getfield 81, 3) := by decide +kernel
theorem d_U_arrayOf_10 : decode b_U_arrayOf 10 = .ok (.laload, 1) := by decide +kernel
theorem d_U_arrayOf_11 : decode b_U_arrayOf 11 = .ok (.l2i, 1) := by decide +kernel
theorem d_U_arrayOf_12 : decode b_U_arrayOf 12 = .ok (.ireturn, 1) := by decide +kernel
theorem d_U_operate_0 : decode b_U_operate 0 = .ok (.iload_n 0, 1) := by decide +kernel
theorem d_U_operate_1 : decode b_U_operate 1 = .ok (.lookupswitch 81 #[(42, 59), (43, 51), (45, 55), (47, 63), (60, 69)], 51) := by decide +kernel
theorem d_U_operate_52 : decode b_U_operate 52 = .ok (.lload_n 1, 1) := by decide +kernel
theorem d_U_operate_53 : decode b_U_operate 53 = .ok (.lload_n 3, 1) := by decide +kernel
theorem d_U_operate_54 : decode b_U_operate 54 = .ok (.ladd, 1) := by decide +kernel
theorem d_U_operate_55 : decode b_U_operate 55 = .ok (.lreturn, 1) := by decide +kernel
theorem d_U_operate_56 : decode b_U_operate 56 = .ok (.lload_n 1, 1) := by decide +kernel
theorem d_U_operate_57 : decode b_U_operate 57 = .ok (.lload_n 3, 1) := by decide +kernel
theorem d_U_operate_58 : decode b_U_operate 58 = .ok (.lsub, 1) := by decide +kernel
theorem d_U_operate_59 : decode b_U_operate 59 = .ok (.lreturn, 1) := by decide +kernel
theorem d_U_operate_60 : decode b_U_operate 60 = .ok (.lload_n 1, 1) := by decide +kernel
theorem d_U_operate_61 : decode b_U_operate 61 = .ok (.lload_n 3, 1) := by decide +kernel
theorem d_U_operate_62 : decode b_U_operate 62 = .ok (.lmul, 1) := by decide +kernel
theorem d_U_operate_63 : decode b_U_operate 63 = .ok (.lreturn, 1) := by decide +kernel
theorem d_U_operate_64 : decode b_U_operate 64 = .ok (.lload_n 1, 1) := by decide +kernel
theorem d_U_operate_65 : decode b_U_operate 65 = .ok (.lload_n 3, 1) := by decide +kernel
theorem d_U_operate_66 : decode b_U_operate 66 = .ok (.invokestatic 127, 3) := by decide +kernel
theorem d_U_operate_69 : decode b_U_operate 69 = .ok (.lreturn, 1) := by decide +kernel
theorem d_U_operate_70 : decode b_U_operate 70 = .ok (.lload_n 1, 1) := by decide +kernel
theorem d_U_operate_71 : decode b_U_operate 71 = .ok (.lload_n 3, 1) := by decide +kernel
theorem d_U_operate_72 : decode b_U_operate 72 = .ok (.lcmp, 1) := by decide +kernel
theorem d_U_operate_73 : decode b_U_operate 73 = .ok (.ifCond .ge 7, 3) := by decide +kernel
theorem d_U_operate_76 : decode b_U_operate 76 = .ok (.lconst 1, 1) := by decide +kernel
theorem d_U_operate_77 : decode b_U_operate 77 = .ok (.goto 4, 3) := by decide +kernel
theorem d_U_operate_80 : decode b_U_operate 80 = .ok (.lconst 0, 1) := by decide +kernel
theorem d_U_operate_81 : decode b_U_operate 81 = .ok (.lreturn, 1) := by decide +kernel
theorem d_U_operate_82 : decode b_U_operate 82 = .ok (.lload_n 1, 1) := by decide +kernel
theorem d_U_operate_83 : decode b_U_operate 83 = .ok (.lload_n 3, 1) := by decide +kernel
theorem d_U_operate_84 : decode b_U_operate 84 = .ok (.lcmp, 1) := by decide +kernel
theorem d_U_operate_85 : decode b_U_operate 85 = .ok (.ifCond .ne 7, 3) := by decide +kernel
theorem d_U_operate_88 : decode b_U_operate 88 = .ok (.lconst 1, 1) := by decide +kernel
theorem d_U_operate_89 : decode b_U_operate 89 = .ok (.goto 4, 3) := by decide +kernel
theorem d_U_operate_92 : decode b_U_operate 92 = .ok (.lconst 0, 1) := by decide +kernel
theorem d_U_operate_93 : decode b_U_operate 93 = .ok (.lreturn, 1) := by decide +kernel
theorem d_U_divide_0 : decode b_U_divide 0 = .ok (.lload_n 2, 1) := by decide +kernel
theorem d_U_divide_1 : decode b_U_divide 1 = .ok (.lconst 0, 1) := by decide +kernel
theorem d_U_divide_2 : decode b_U_divide 2 = .ok (.lcmp, 1) := by decide +kernel
theorem d_U_divide_3 : decode b_U_divide 3 = .ok (.ifCond .ne 13, 3) := by decide +kernel
theorem d_U_divide_6 : decode b_U_divide 6 = .ok (.new 131, 3) := by decide +kernel
theorem d_U_divide_9 : decode b_U_divide 9 = .ok (.dup, 1) := by decide +kernel
theorem d_U_divide_10 : decode b_U_divide 10 = .ok (.ldc 133, 2) := by decide +kernel
theorem d_U_divide_12 : decode b_U_divide 12 = .ok (.invokespecial 135, 3) := by decide +kernel
theorem d_U_divide_15 : decode b_U_divide 15 = .ok (.athrow, 1) := by decide +kernel
theorem d_U_divide_16 : decode b_U_divide 16 = .ok (.lload_n 0, 1) := by decide +kernel
theorem d_U_divide_17 : decode b_U_divide 17 = .ok (.lload_n 2, 1) := by decide +kernel
theorem d_U_divide_18 : decode b_U_divide 18 = .ok (.ldiv, 1) := by decide +kernel
theorem d_U_divide_19 : decode b_U_divide 19 = .ok (.lreturn, 1) := by decide +kernel
section STO
variable {G : zG} {l : Launch} {n : Nat} {σ : zS} {xs : mS} {xr : Int64} {xa : mA} {xl : mL} {xf : xF}
theorem c_O_empty (hn : 85 ≤ n) : MetZ G l y_O_empty b_O_empty 2 none [] 0 0 0 [.ref 6] n (xOv xs xr xa xl xf σ) (fun o n' σ' => o = .returned none ∧ n' = n ∧ σ' = xOv (upd (upd (upd xs 10 0) 8 0) 9 0) xr (va_up xa 18 (fl (xa 18) 8 0)) xl xf σ) := by
  refine MetZ.of (by decide) (Nat.le_of_ble_eq_true rfl) (fun K hK hR hpo hmc hms C => ?_)
  have loop : ∀ m k, m + k = 8 → Z G K n (xOv xs xr (va_up xa 18 (fl (xa 18) k 0)) xl xf σ) 0 0 2 [(1, .int (nI k)), (0, .ref 6)] [] := fun m => by
    induction m with
    | zero =>
      intro k hk
      obtain rfl : k = 8 := by omega
      refine z_iload_n C 3 d_O_empty_2 rfl rfl ?_
      refine z_bipush C 5 d_O_empty_3 rfl 8 (by decide) ?_
      refine z_icmp_ge C 8 21 d_O_empty_5 rfl (by decide) (fun _ => ?_) (fun h9 => absurd (show (8 : Int32) ≤ nI 8 by decide) h9)
      refine z_aload_n C 22 d_O_empty_21 rfl rfl ?_
      refine z_iconst C 23 d_O_empty_22 rfl 0 (by decide) ?_
      refine zx_put6 C 26 10 p_O_34 d_O_empty_23 rfl (by omega) (by decide) (by decide) rfl ?_
      refine z_aload_n C 27 d_O_empty_26 rfl rfl ?_
      refine z_iconst C 28 d_O_empty_27 rfl 0 (by decide) ?_
      refine zx_put6 C 31 8 p_O_18 d_O_empty_28 rfl (by omega) (by decide) (by decide) rfl ?_
      refine z_aload_n C 32 d_O_empty_31 rfl rfl ?_
      refine z_iconst C 33 d_O_empty_32 rfl 0 (by decide) ?_
      refine zx_put6 C 36 9 p_O_22 d_O_empty_33 rfl (by omega) (by decide) (by decide) rfl ?_
      exact z_vret C rfl d_O_empty_36 (by rw [hpo]; exact ⟨rfl, rfl, rfl⟩) (by rw [hmc]; omega) (by rw [hms]; omega)
    | succ m ih =>
      intro k hk
      refine z_iload_n C 3 d_O_empty_2 rfl rfl ?_
      refine z_bipush C 5 d_O_empty_3 rfl 8 (by decide) ?_
      refine z_icmp_ge C 8 21 d_O_empty_5 rfl (by decide) (fun h9 => absurd h9 (fun h9 => absurd ((nI_leI (a := 8) (by omega) (by omega)).mp h9) (by omega))) (fun _ => ?_)
      refine z_aload_n C 9 d_O_empty_8 rfl rfl ?_
      refine z_get C 12 f_O_30 d_O_empty_9 rfl (by omega) rfl rfl ?_
      refine z_iload_n C 13 d_O_empty_12 rfl rfl ?_
      refine z_iconst C 14 d_O_empty_13 rfl 0 (by decide) ?_
      refine zx_zast C 15 k 0 d_O_empty_14 rfl (by omega) rfl (by omega) rfl ?_
      rw [va_up2, va_up_self, fl_upd]
      refine z_iinc C 18 d_O_empty_15 rfl (nI (k + 1)) rfl (z_inc k) (by decide) ?_
      refine z_goto C 2 d_O_empty_18 (by decide) ?_
      exact ih (k + 1) (by omega)
  refine z_iconst C 1 d_O_empty_0 rfl 0 (by decide) ?_
  refine z_istore_n C 2 d_O_empty_1 rfl (by decide) ?_
  have k := loop 8 0 (by omega)
  rw [fl_0, va_same rfl] at k
  exact k
/-- the first that is free, of m from k on -/
def xff (f : Nat → Int32) : Nat → Nat → Option Nat
  | 0, _ => none
  | m + 1, k => if f k = 0 then some k else xff f m (k + 1)
def xfI (o : Option Nat) : Int32 := match o with
  | none => -1
  | some k => nI k
theorem c_O_firstFree (hn : 85 ≤ n) : MetZ G l y_O_firstFree b_O_firstFree 2 (some .int) [] 0 0 0 [.ref 6] n (xOv xs xr xa xl xf σ) (fun o n' σ' => o = .returned (some (.int (xfI (xff (xa 18) 8 0)))) ∧ n' = n ∧ σ' = xOv xs xr xa xl xf σ) := by
  refine MetZ.of (by decide) (Nat.le_of_ble_eq_true rfl) (fun K hK hR hpo hmc hms C => ?_)
  have loop : ∀ m k, m + k = 8 → xff (xa 18) m k = xff (xa 18) 8 0 → Z G K n (xOv xs xr xa xl xf σ) 0 0 2 [(1, .int (nI k)), (0, .ref 6)] [] := fun m => by
    induction m with
    | zero =>
      intro k hk hx
      obtain rfl : k = 8 := by omega
      refine z_iload_n C 3 d_O_firstFree_2 rfl rfl ?_
      refine z_bipush C 5 d_O_firstFree_3 rfl 8 (by decide) ?_
      refine z_icmp_ge C 8 25 d_O_firstFree_5 rfl (by decide) (fun _ => ?_) (fun h9 => absurd (show (8 : Int32) ≤ nI 8 by decide) h9)
      refine z_iconst C 26 d_O_firstFree_25 rfl (-1) (by decide) ?_
      exact z_iret C rfl d_O_firstFree_26 (by rw [hpo]; exact ⟨by rw [← hx]; rfl, rfl, rfl⟩) (by rw [hmc]; omega) (by rw [hms]; omega)
    | succ m ih =>
      intro k hk hx
      have hx : (if xa 18 k = 0 then some k else xff (xa 18) m (k + 1)) = xff (xa 18) 8 0 := hx
      refine z_iload_n C 3 d_O_firstFree_2 rfl rfl ?_
      refine z_bipush C 5 d_O_firstFree_3 rfl 8 (by decide) ?_
      refine z_icmp_ge C 8 25 d_O_firstFree_5 rfl (by decide) (fun h9 => absurd h9 (fun h9 => absurd ((nI_leI (a := 8) (by omega) (by omega)).mp h9) (by omega))) (fun _ => ?_)
      refine z_aload_n C 9 d_O_firstFree_8 rfl rfl ?_
      refine z_get C 12 f_O_30 d_O_firstFree_9 rfl (by omega) rfl rfl ?_
      refine z_iload_n C 13 d_O_firstFree_12 rfl rfl ?_
      refine z_zald C 14 k d_O_firstFree_13 rfl (by omega) rfl rfl (by show k < 8; omega) (by decide) ?_
      by_cases q : xa 18 k = 0
      · rw [if_pos q] at hx
        refine z_if_ne C 17 19 d_O_firstFree_14 rfl (by decide) (fun h9 => absurd q h9) (fun _ => ?_)
        refine z_iload_n C 18 d_O_firstFree_17 rfl rfl ?_
        exact z_iret C rfl d_O_firstFree_18 (by rw [hpo]; exact ⟨by rw [← hx]; rfl, rfl, rfl⟩) (by rw [hmc]; omega) (by rw [hms]; omega)
      · rw [if_neg q] at hx
        refine z_if_ne C 17 19 d_O_firstFree_14 rfl (by decide) (fun _ => ?_) (fun h9 => absurd h9 q)
        refine z_iinc C 22 d_O_firstFree_19 rfl (nI (k + 1)) rfl (z_inc k) (by decide) ?_
        refine z_goto C 2 d_O_firstFree_22 (by decide) ?_
        exact ih (k + 1) (by omega) hx
  refine z_iconst C 1 d_O_firstFree_0 rfl 0 (by decide) ?_
  refine z_istore_n C 2 d_O_firstFree_1 rfl (by decide) ?_
  exact loop 8 0 (by omega) rfl
theorem c_O_giveUp (hn : 85 ≤ n) {a : Nat} (ha : a < 8) : MetZ G l y_O_giveUp b_O_giveUp 2 none [] 0 0 0 [.ref 6, .int (nI a)] n (xOv xs xr xa xl xf σ) (fun o n' σ' => o = .returned none ∧ n' = n ∧ σ' = xOv (upd xs 10 (xs 10 - 1)) xr (va_up xa 18 (upd (xa 18) a 0)) xl xf σ) := by
  refine MetZ.of (by decide) (Nat.le_of_ble_eq_true rfl) (fun K hK hR hpo hmc hms C => ?_)
  refine z_aload_n C 1 d_O_giveUp_0 rfl rfl ?_
  refine z_get C 4 f_O_30 d_O_giveUp_1 rfl (by omega) rfl rfl ?_
  refine z_iload_n C 5 d_O_giveUp_4 rfl rfl ?_
  refine z_iconst C 6 d_O_giveUp_5 rfl 0 (by decide) ?_
  refine zx_zast C 7 a 0 d_O_giveUp_6 rfl (by omega) rfl (by omega) rfl ?_
  refine z_aload_n C 8 d_O_giveUp_7 rfl rfl ?_
  refine z_dup C 9 d_O_giveUp_8 rfl rfl ?_
  refine z_get C 12 f_O_34 d_O_giveUp_9 rfl (by omega) rfl rfl ?_
  refine z_iconst C 13 d_O_giveUp_12 rfl 1 (by decide) ?_
  refine z_isub C 14 d_O_giveUp_13 rfl ?_
  refine zx_put6 C 17 10 p_O_34 d_O_giveUp_14 rfl (by omega) (by decide) (by decide) rfl ?_
  exact z_vret C rfl d_O_giveUp_17 (by rw [hpo]; exact ⟨rfl, rfl, rfl⟩) (by rw [hmc]; omega) (by rw [hms]; omega)
theorem xLen_f {fr : Nat} (h : fr < 65) : xLen (20 + fr) = 20 := by
  unfold xLen
  rw [if_neg (by omega), if_neg (by omega), if_neg (by omega), if_neg (by omega), if_neg (by omega)]
theorem xLen_n {a : Nat} (h : a < 8) : xLen (10 + a) = 40 := by
  unfold xLen
  rw [if_neg (by omega), if_neg (by omega), if_neg (by omega), if_pos (by omega)]
theorem c_U_arrayOf (hn : 85 ≤ n) {e fr v : Nat} {fs : List Value} {x : Int64} (he : 85 ≤ e) (hen : e < n) (hσ : σ e = .inr (3, fs)) (hv : fs[6]? = some (.int (nI v))) (hv20 : v < 20) (hfr : fr < 65) (hx : xl (20 + fr) v = x) : MetZ G l y_U_arrayOf b_U_arrayOf 3 (some .int) [] 0 0 0 [.ref 5, .ref e, .int (nI fr)] n (xOv xs xr xa xl xf σ) (fun o n' σ' => o = .returned (some (.int x.toInt32)) ∧ n' = n ∧ σ' = xOv xs xr xa xl xf σ) := by
  refine MetZ.of (by decide) (Nat.le_of_ble_eq_true rfl) (fun K hK hR hpo hmc hms C => ?_)
  refine z_aload_n C 1 d_U_arrayOf_0 rfl rfl ?_
  refine z_get C 4 f_U_27 d_U_arrayOf_1 rfl (by omega) rfl rfl ?_
  refine z_iload_n C 5 d_U_arrayOf_4 rfl rfl ?_
  refine z_aald C 6 fr (ty := .array .long) (some (20 + fr)) d_U_arrayOf_5 rfl (by omega) rfl rfl rfl rfl hfr (by decide) (by rw [if_pos hfr]) ?_
  refine z_aload_n C 7 d_U_arrayOf_6 rfl rfl ?_
  refine z_get C 10 f_U_81 d_U_arrayOf_7 rfl hen ((xOv_at he).trans hσ) hv ?_
  refine zx_lald C 11 v d_U_arrayOf_10 rfl (by omega) (by unfold xIsL; omega) rfl (by rw [xLen_f hfr]; exact hv20) (by rw [xLen_f hfr]; decide) ?_
  rw [hx]
  refine z_l2i C 12 d_U_arrayOf_11 rfl ?_
  exact z_iret C rfl d_U_arrayOf_12 (by rw [hpo]; exact ⟨rfl, rfl, rfl⟩) (by rw [hmc]; omega) (by rw [hms]; omega)
end STO
