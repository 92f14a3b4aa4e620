theorem d_S_define_0 : decode b_S_define 0 = .ok (.aload_n 0, 1) := by decide +kernel
theorem d_S_define_1 : decode b_S_define 1 = .ok (.getfield 41, 3) := by decide +kernel
theorem d_S_define_4 : decode b_S_define 4 = .ok (.istore_n 1, 1) := by decide +kernel
theorem d_S_define_5 : decode b_S_define 5 = .ok (.aload_n 0, 1) := by decide +kernel
theorem d_S_define_6 : decode b_S_define 6 = .ok (.iconst 0, 1) := by decide +kernel
theorem d_S_define_7 : decode b_S_define 7 = .ok (.putfield 37, 3) := by decide +kernel
theorem d_S_define_10 : decode b_S_define 10 = .ok (.aload_n 0, 1) := by decide +kernel
theorem d_S_define_11 : decode b_S_define 11 = .ok (.iconst 0, 1) := by decide +kernel
theorem d_S_define_12 : decode b_S_define 12 = .ok (.putfield 41, 3) := by decide +kernel
theorem d_S_define_15 : decode b_S_define 15 = .ok (.aload_n 0, 1) := by decide +kernel
theorem d_S_define_16 : decode b_S_define 16 = .ok (.getfield 16, 3) := by decide +kernel
theorem d_S_define_19 : decode b_S_define 19 = .ok (.iconst (-1), 1) := by decide +kernel
theorem d_S_define_20 : decode b_S_define 20 = .ok (.putfield 54, 3) := by decide +kernel
theorem d_S_define_23 : decode b_S_define 23 = .ok (.new 57, 3) := by decide +kernel
theorem d_S_define_26 : decode b_S_define 26 = .ok (.dup, 1) := by decide +kernel
theorem d_S_define_27 : decode b_S_define 27 = .ok (.aload_n 0, 1) := by decide +kernel
theorem d_S_define_28 : decode b_S_define 28 = .ok (.getfield 9, 3) := by decide +kernel
theorem d_S_define_31 : decode b_S_define 31 = .ok (.iload_n 1, 1) := by decide +kernel
theorem d_S_define_32 : decode b_S_define 32 = .ok (.aload_n 0, 1) := by decide +kernel
theorem d_S_define_33 : decode b_S_define 33 = .ok (.getfield 16, 3) := by decide +kernel
theorem d_S_define_36 : decode b_S_define 36 = .ok (.invokespecial 59, 3) := by decide +kernel
theorem d_S_define_39 : decode b_S_define 39 = .ok (.invokevirtual 62, 3) := by decide +kernel
theorem d_S_define_42 : decode b_S_define 42 = .ok (.astore_n 2, 1) := by decide +kernel
theorem d_S_define_43 : decode b_S_define 43 = .ok (.new 66, 3) := by decide +kernel
theorem d_S_define_46 : decode b_S_define 46 = .ok (.dup, 1) := by decide +kernel
theorem d_S_define_47 : decode b_S_define 47 = .ok (.aload_n 2, 1) := by decide +kernel
theorem d_S_define_48 : decode b_S_define 48 = .ok (.aload_n 0, 1) := by decide +kernel
theorem d_S_define_49 : decode b_S_define 49 = .ok (.getfield 22, 3) := by decide +kernel
theorem d_S_define_52 : decode b_S_define 52 = .ok (.aload_n 0, 1) := by decide +kernel
theorem d_S_define_53 : decode b_S_define 53 = .ok (.getfield 16, 3) := by decide +kernel
theorem d_S_define_56 : decode b_S_define 56 = .ok (.invokespecial 68, 3) := by decide +kernel
theorem d_S_define_59 : decode b_S_define 59 = .ok (.invokevirtual 71, 3) := by decide +kernel
theorem d_S_define_62 : decode b_S_define 62 = .ok (.aload_n 0, 1) := by decide +kernel
theorem d_S_define_63 : decode b_S_define 63 = .ok (.getfield 22, 3) := by decide +kernel
theorem d_S_define_66 : decode b_S_define 66 = .ok (.aload_n 2, 1) := by decide +kernel
theorem d_S_define_67 : decode b_S_define 67 = .ok (.getfield 74, 3) := by decide +kernel
theorem d_S_define_70 : decode b_S_define 70 = .ok (.aload_n 2, 1) := by decide +kernel
theorem d_S_define_71 : decode b_S_define 71 = .ok (.aastore, 1) := by decide +kernel
theorem d_S_define_72 : decode b_S_define 72 = .ok (.aload_n 0, 1) := by decide +kernel
theorem d_S_define_73 : decode b_S_define 73 = .ok (.dup, 1) := by decide +kernel
theorem d_S_define_74 : decode b_S_define 74 = .ok (.getfield 44, 3) := by decide +kernel
theorem d_S_define_77 : decode b_S_define 77 = .ok (.iconst 1, 1) := by decide +kernel
theorem d_S_define_78 : decode b_S_define 78 = .ok (.iadd, 1) := by decide +kernel
theorem d_S_define_79 : decode b_S_define 79 = .ok (.putfield 44, 3) := by decide +kernel
theorem d_S_define_82 : decode b_S_define 82 = .ok (.aload_n 0, 1) := by decide +kernel
theorem d_S_define_83 : decode b_S_define 83 = .ok (.getfield 44, 3) := by decide +kernel
theorem d_S_define_86 : decode b_S_define 86 = .ok (.ireturn, 1) := by decide +kernel
theorem d_S_functionNamed_0 : decode b_S_functionNamed 0 = .ok (.iload_n 1, 1) := by decide +kernel
theorem d_S_functionNamed_1 : decode b_S_functionNamed 1 = .ok (.bipush 65, 2) := by decide +kernel
theorem d_S_functionNamed_3 : decode b_S_functionNamed 3 = .ok (.if_icmp .lt 21, 3) := by decide +kernel
theorem d_S_functionNamed_6 : decode b_S_functionNamed 6 = .ok (.iload_n 1, 1) := by decide +kernel
theorem d_S_functionNamed_7 : decode b_S_functionNamed 7 = .ok (.bipush 72, 2) := by decide +kernel
theorem d_S_functionNamed_9 : decode b_S_functionNamed 9 = .ok (.if_icmp .gt 15, 3) := by decide +kernel
theorem d_S_functionNamed_12 : decode b_S_functionNamed 12 = .ok (.aload_n 0, 1) := by decide +kernel
theorem d_S_functionNamed_13 : decode b_S_functionNamed 13 = .ok (.getfield 22, 3) := by decide +kernel
theorem d_S_functionNamed_16 : decode b_S_functionNamed 16 = .ok (.iload_n 1, 1) := by decide +kernel
theorem d_S_functionNamed_17 : decode b_S_functionNamed 17 = .ok (.bipush 65, 2) := by decide +kernel
theorem d_S_functionNamed_19 : decode b_S_functionNamed 19 = .ok (.isub, 1) := by decide +kernel
theorem d_S_functionNamed_20 : decode b_S_functionNamed 20 = .ok (.aaload, 1) := by decide +kernel
theorem d_S_functionNamed_21 : decode b_S_functionNamed 21 = .ok (.goto 4, 3) := by decide +kernel
theorem d_S_functionNamed_24 : decode b_S_functionNamed 24 = .ok (.aconst_null, 1) := by decide +kernel
theorem d_S_functionNamed_25 : decode b_S_functionNamed 25 = .ok (.areturn, 1) := by decide +kernel
theorem d_S_run_0 : decode b_S_run 0 = .ok (.aload_n 0, 1) := by decide +kernel
theorem d_S_run_1 : decode b_S_run 1 = .ok (.iload_n 1, 1) := by decide +kernel
theorem d_S_run_2 : decode b_S_run 2 = .ok (.invokevirtual 77, 3) := by decide +kernel
theorem d_S_run_5 : decode b_S_run 5 = .ok (.astore_n 2, 1) := by decide +kernel
theorem d_S_run_6 : decode b_S_run 6 = .ok (.aload_n 2, 1) := by decide +kernel
theorem d_S_run_7 : decode b_S_run 7 = .ok (.ifnull 10, 3) := by decide +kernel
theorem d_S_run_10 : decode b_S_run 10 = .ok (.aload_n 2, 1) := by decide +kernel
theorem d_S_run_11 : decode b_S_run 11 = .ok (.invokevirtual 81, 3) := by decide +kernel
theorem d_S_run_14 : decode b_S_run 14 = .ok (.ifCond .ne 13, 3) := by decide +kernel
theorem d_S_run_17 : decode b_S_run 17 = .ok (.new 85, 3) := by decide +kernel
theorem d_S_run_20 : decode b_S_run 20 = .ok (.dup, 1) := by decide +kernel
theorem d_S_run_21 : decode b_S_run 21 = .ok (.ldc 87, 2) := by decide +kernel
theorem d_S_run_23 : decode b_S_run 23 = .ok (.invokespecial 89, 3) := by decide +kernel
theorem d_S_run_26 : decode b_S_run 26 = .ok (.athrow, 1) := by decide +kernel
theorem d_S_run_27 : decode b_S_run 27 = .ok (.aload_n 0, 1) := by decide +kernel
theorem d_S_run_28 : decode b_S_run 28 = .ok (.iconst (-1), 1) := by decide +kernel
theorem d_S_run_29 : decode b_S_run 29 = .ok (.putfield 47, 3) := by decide +kernel
theorem d_S_run_32 : decode b_S_run 32 = .ok (.aload_n 0, 1) := by decide +kernel
theorem d_S_run_33 : decode b_S_run 33 = .ok (.aload_n 0, 1) := by decide +kernel
theorem d_S_run_34 : decode b_S_run 34 = .ok (.getfield 33, 3) := by decide +kernel
theorem d_S_run_37 : decode b_S_run 37 = .ok (.aload_n 2, 1) := by decide +kernel
theorem d_S_run_38 : decode b_S_run 38 = .ok (.aload_n 0, 1) := by decide +kernel
theorem d_S_run_39 : decode b_S_run 39 = .ok (.getfield 26, 3) := by decide +kernel
theorem d_S_run_42 : decode b_S_run 42 = .ok (.invokevirtual 92, 3) := by decide +kernel
theorem d_S_run_45 : decode b_S_run 45 = .ok (.putfield 50, 3) := by decide +kernel
theorem d_S_run_48 : decode b_S_run 48 = .ok (.aload_n 0, 1) := by decide +kernel
theorem d_S_run_49 : decode b_S_run 49 = .ok (.aload_n 2, 1) := by decide +kernel
theorem d_S_run_50 : decode b_S_run 50 = .ok (.getfield 96, 3) := by decide +kernel
theorem d_S_run_53 : decode b_S_run 53 = .ok (.putfield 47, 3) := by decide +kernel
theorem d_S_run_56 : decode b_S_run 56 = .ok (.aload_n 0, 1) := by decide +kernel
theorem d_S_run_57 : decode b_S_run 57 = .ok (.getfield 47, 3) := by decide +kernel
theorem d_S_run_60 : decode b_S_run 60 = .ok (.ireturn, 1) := by decide +kernel
theorem d_R_readFunction_0 : decode b_R_readFunction 0 = .ok (.new 26, 3) := by decide +kernel
theorem d_R_readFunction_3 : decode b_R_readFunction 3 = .ok (.dup, 1) := by decide +kernel
theorem d_R_readFunction_4 : decode b_R_readFunction 4 = .ok (.aload_n 0, 1) := by decide +kernel
theorem d_R_readFunction_5 : decode b_R_readFunction 5 = .ok (.bipush 65, 2) := by decide +kernel
theorem d_R_readFunction_7 : decode b_R_readFunction 7 = .ok (.bipush 72, 2) := by decide +kernel
theorem d_R_readFunction_9 : decode b_R_readFunction 9 = .ok (.invokevirtual 28, 3) := by decide +kernel
theorem d_R_readFunction_12 : decode b_R_readFunction 12 = .ok (.invokespecial 32, 3) := by decide +kernel
theorem d_R_readFunction_15 : decode b_R_readFunction 15 = .ok (.astore_n 1, 1) := by decide +kernel
theorem d_R_readFunction_16 : decode b_R_readFunction 16 = .ok (.aload_n 0, 1) := by decide +kernel
theorem d_R_readFunction_17 : decode b_R_readFunction 17 = .ok (.bipush 40, 2) := by decide +kernel
theorem d_R_readFunction_19 : decode b_R_readFunction 19 = .ok (.invokevirtual 35, 3) := by decide +kernel
theorem d_R_readFunction_22 : decode b_R_readFunction 22 = .ok (.iconst 0, 1) := by decide +kernel
theorem d_R_readFunction_23 : decode b_R_readFunction 23 = .ok (.istore_n 2, 1) := by decide +kernel
theorem d_R_readFunction_24 : decode b_R_readFunction 24 = .ok (.iload_n 2, 1) := by decide +kernel
theorem d_R_readFunction_25 : decode b_R_readFunction 25 = .ok (.iconst 4, 1) := by decide +kernel
theorem d_R_readFunction_26 : decode b_R_readFunction 26 = .ok (.if_icmp .ge 28, 3) := by decide +kernel
theorem d_R_readFunction_29 : decode b_R_readFunction 29 = .ok (.aload_n 0, 1) := by decide +kernel
theorem d_R_readFunction_30 : decode b_R_readFunction 30 = .ok (.invokevirtual 39, 3) := by decide +kernel
theorem d_R_readFunction_33 : decode b_R_readFunction 33 = .ok (.bipush 41, 2) := by decide +kernel
theorem d_R_readFunction_35 : decode b_R_readFunction 35 = .ok (.if_icmp .eq 19, 3) := by decide +kernel
theorem d_R_readFunction_38 : decode b_R_readFunction 38 = .ok (.aload_n 0, 1) := by decide +kernel
theorem d_R_readFunction_39 : decode b_R_readFunction 39 = .ok (.iload_n 2, 1) := by decide +kernel
theorem d_R_readFunction_40 : decode b_R_readFunction 40 = .ok (.invokevirtual 43, 3) := by decide +kernel
theorem d_R_readFunction_43 : decode b_R_readFunction 43 = .ok (.aload_n 0, 1) := by decide +kernel
theorem d_R_readFunction_44 : decode b_R_readFunction 44 = .ok (.aload_n 1, 1) := by decide +kernel
theorem d_R_readFunction_45 : decode b_R_readFunction 45 = .ok (.invokevirtual 46, 3) := by decide +kernel
theorem d_R_readFunction_48 : decode b_R_readFunction 48 = .ok (.iinc 2 1, 3) := by decide +kernel
theorem d_R_readFunction_51 : decode b_R_readFunction 51 = .ok (.goto (-27), 3) := by decide +kernel
theorem d_R_readFunction_54 : decode b_R_readFunction 54 = .ok (.aload_n 0, 1) := by decide +kernel
theorem d_R_readFunction_55 : decode b_R_readFunction 55 = .ok (.bipush 41, 2) := by decide +kernel
theorem d_R_readFunction_57 : decode b_R_readFunction 57 = .ok (.invokevirtual 35, 3) := by decide +kernel
theorem d_R_readFunction_60 : decode b_R_readFunction 60 = .ok (.aload_n 1, 1) := by decide +kernel
theorem d_R_readFunction_61 : decode b_R_readFunction 61 = .ok (.aload_n 0, 1) := by decide +kernel
theorem d_R_readFunction_62 : decode b_R_readFunction 62 = .ok (.bipush 48, 2) := by decide +kernel
theorem d_R_readFunction_64 : decode b_R_readFunction 64 = .ok (.bipush 50, 2) := by decide +kernel
theorem d_R_readFunction_66 : decode b_R_readFunction 66 = .ok (.invokevirtual 28, 3) := by decide +kernel
theorem d_R_readFunction_69 : decode b_R_readFunction 69 = .ok (.putfield 50, 3) := by decide +kernel
theorem d_R_readFunction_72 : decode b_R_readFunction 72 = .ok (.aload_n 0, 1) := by decide +kernel
theorem d_R_readFunction_73 : decode b_R_readFunction 73 = .ok (.bipush 61, 2) := by decide +kernel
theorem d_R_readFunction_75 : decode b_R_readFunction 75 = .ok (.invokevirtual 35, 3) := by decide +kernel
theorem d_R_readFunction_78 : decode b_R_readFunction 78 = .ok (.aload_n 1, 1) := by decide +kernel
theorem d_R_readFunction_79 : decode b_R_readFunction 79 = .ok (.aload_n 0, 1) := by decide +kernel
theorem d_R_readFunction_80 : decode b_R_readFunction 80 = .ok (.iconst 1, 1) := by decide +kernel
theorem d_R_readFunction_81 : decode b_R_readFunction 81 = .ok (.invokevirtual 53, 3) := by decide +kernel
theorem d_R_readFunction_84 : decode b_R_readFunction 84 = .ok (.putfield 57, 3) := by decide +kernel
theorem d_R_readFunction_87 : decode b_R_readFunction 87 = .ok (.aload_n 0, 1) := by decide +kernel
theorem d_R_readFunction_88 : decode b_R_readFunction 88 = .ok (.getfield 9, 3) := by decide +kernel
theorem d_R_readFunction_91 : decode b_R_readFunction 91 = .ok (.aload_n 0, 1) := by decide +kernel
theorem d_R_readFunction_92 : decode b_R_readFunction 92 = .ok (.getfield 19, 3) := by decide +kernel
theorem d_R_readFunction_95 : decode b_R_readFunction 95 = .ok (.if_icmp .ge 14, 3) := by decide +kernel
theorem d_R_readFunction_98 : decode b_R_readFunction 98 = .ok (.aload_n 0, 1) := by decide +kernel
theorem d_R_readFunction_99 : decode b_R_readFunction 99 = .ok (.getfield 22, 3) := by decide +kernel
theorem d_R_readFunction_102 : decode b_R_readFunction 102 = .ok (.aload_n 0, 1) := by decide +kernel
theorem d_R_readFunction_103 : decode b_R_readFunction 103 = .ok (.getfield 9, 3) := by decide +kernel
theorem d_R_readFunction_106 : decode b_R_readFunction 106 = .ok (.invokevirtual 61, 3) := by decide +kernel
theorem d_R_readFunction_109 : decode b_R_readFunction 109 = .ok (.aload_n 1, 1) := by decide +kernel
theorem d_R_readFunction_110 : decode b_R_readFunction 110 = .ok (.areturn, 1) := by decide +kernel
section BX
variable {G : zG} {l : Launch} {n r p z : Nat} {σ : zS} {xs : mS} {xr : Int64} {xa : mA} {xl : mL} {xf : xF}
/-- the text begins with no function's letter -/
def xBad (xa : mA) (z : Nat) : Prop := ¬ (65 ≤ xlk xa 0 z ∧ xlk xa 0 z ≤ 72)
def fnC0 : va_E := .inr (2, [.int 0, .null, .null, .null, .int 0, .int 0, .null])
theorem c_R_readFunction_bad (hn : 85 ≤ n) (hn2 : n < 999000) (hr : 85 ≤ r) (hrn : r < n) (hrd0 : σ r = rdC 0 z) (hz : z ≤ 150) (hc : ∀ i, i < 150 → narrow .char (.int (xa 1 i)) = .int (xa 1 i)) (hb : xBad xa z) : MetZ G l y_R_readFunction b_R_readFunction 3 (some (.object "SoleArrays$Function")) [] 8 2 13 [.ref r] n (xOv xs xr xa xl xf σ)
    (fun o n' σ' => o = .threw (n + 1) ∧ n' = n + 2 ∧ σ' = xOv (upd xs 4 0) xr xa xl xf (va_up (va_up σ n fnC0) (n + 1) (.inr (9, [])))) := by
  have hrd : xOv xs xr xa xl xf (va_up σ n fnC0) r = .inr (4, [.ref 1, .int (nI z), .ref 2, .int (nI 0)]) := (xOv_at hr).trans ((va_up_ne _ _ (by omega)).trans hrd0)
  refine MetZ.of (by decide) (Nat.le_of_ble_eq_true rfl) (fun K hK hR hpo hmc hms C => ?_)
  refine z_new C 3 n_R_26 d_R_readFunction_0 rfl (by omega) (by rw [hR]; simp only [zRm]; omega) (by rw [hR]; simp only [zRm]; omega) ?_
  rw [xOv_up hn]
  refine z_dup C 4 d_R_readFunction_3 rfl rfl ?_
  refine z_aload_n C 5 d_R_readFunction_4 rfl rfl ?_
  refine z_bipush C 7 d_R_readFunction_5 rfl 65 (by decide) ?_
  refine z_bipush C 9 d_R_readFunction_7 rfl 72 (by decide) ?_
  refine z_call C 12 (c_R_takeOneOf (p := 0) (z := z) (by omega) (by omega) hr (by omega) ((va_up_ne _ _ (by omega)).trans hrd0) hz (by omega) hc 65 72 (mc := 1) (ms := 6) (fun _ => ⟨by omega, by omega⟩)) w_R_takeOneOf ini_R d_R_readFunction_9 rfl (z_goV (As := [.int 65, .int 72]) C l_R_28 w_R_takeOneOf d_R_readFunction_9 (by omega) (hrd) rfl rfl) (Nat.le_of_ble_eq_true rfl) (by rw [hR]; simp only [zRm]; omega) (by rw [hR]; simp only [zRm]; omega) (by rw [hR]; simp only [zRm]; omega) (by rw [hR]; simp only [zRm]; omega) (fun v n' σ' hv => ?_) (fun x n' σ' hv => ?_)
  · rcases hv with ⟨q, -⟩ | ⟨-, e0, -⟩
    · exact absurd q hb
    · cases e0
  · rcases hv with ⟨q, -⟩ | ⟨-, e0, rfl, rfl⟩
    · exact absurd q hb
    · cases e0
      exact zx_out C (fun h hh => nomatch hh) (by rw [hpo]; exact ⟨rfl, rfl, rfl⟩) (by rw [hmc]; omega) (by rw [hms]; omega)
theorem c_S_define_bad (hn : 85 ≤ n) (hn2 : n < 998000) (h1 : xs 1 = nI z) (hz : z ≤ 150) (hc : ∀ i, i < 150 → narrow .char (.int (xa 1 i)) = .int (xa 1 i)) (hb : xBad xa z) : MetZ G l y_S_define b_S_define 3 (some .int) [] 9 3 17 [.ref 0] n (xOv xs xr xa xl xf σ)
    (fun o n' σ' => o = .threw (n + 2) ∧ n' = n + 3 ∧ σ' = xOv (upd (upd (upd (upd xs 0 0) 1 0) 4 (-1)) 4 0) xr xa xl xf (va_up (va_up (va_up σ n (rdC 0 z)) (n + 1) fnC0) (n + 2) (.inr (9, [])))) := by
  refine MetZ.of (by decide) (Nat.le_of_ble_eq_true rfl) (fun K hK hR hpo hmc hms C => ?_)
  refine z_aload_n C 1 d_S_define_0 rfl rfl ?_
  refine z_get C 4 f_S_41 d_S_define_1 rfl (by omega) rfl rfl ?_
  refine z_istore_n C 5 d_S_define_4 rfl (by decide) ?_
  refine z_aload_n C 6 d_S_define_5 rfl rfl ?_
  refine z_iconst C 7 d_S_define_6 rfl 0 (by decide) ?_
  refine zx_put0 C 10 0 p_S_37 d_S_define_7 rfl (by omega) (by decide) (by decide) rfl ?_
  refine z_aload_n C 11 d_S_define_10 rfl rfl ?_
  refine z_iconst C 12 d_S_define_11 rfl 0 (by decide) ?_
  refine zx_put0 C 15 1 p_S_41 d_S_define_12 rfl (by omega) (by decide) (by decide) rfl ?_
  refine z_aload_n C 16 d_S_define_15 rfl rfl ?_
  refine z_get C 19 f_S_16 d_S_define_16 rfl (by omega) rfl rfl ?_
  refine z_iconst C 20 d_S_define_19 rfl (-1) (by decide) ?_
  refine zx_put2 C 23 p_S_54 d_S_define_20 rfl (by omega) ?_
  refine z_new C 26 n_S_57 d_S_define_23 rfl (by omega) (by rw [hR]; simp only [zRm]; omega) (by rw [hR]; simp only [zRm]; omega) ?_
  rw [xOv_up hn]
  refine z_dup C 27 d_S_define_26 rfl rfl ?_
  refine z_aload_n C 28 d_S_define_27 rfl rfl ?_
  refine z_get C 31 f_S_9 d_S_define_28 rfl (by omega) rfl rfl ?_
  refine z_iload_n C 32 d_S_define_31 rfl rfl ?_
  refine z_aload_n C 33 d_S_define_32 rfl rfl ?_
  refine z_get C 36 f_S_16 d_S_define_33 rfl (by omega) rfl rfl ?_
  rw [← xOv_up hn, h1]
  refine z_call C 39 (c_R_init (by omega) (nI z)) w_R_init ini_R d_S_define_36 rfl (z_goI (As := [.ref 1, .int (nI z), .ref 2]) C l_S_59 w_R_init d_S_define_36 rfl) (Nat.le_of_ble_eq_true rfl) (by rw [hR]; simp only [zRm]; omega) (by rw [hR]; simp only [zRm]; omega) (by rw [hR]; simp only [zRm]; omega) (by rw [hR]; simp only [zRm]; omega) (fun v n' σ' hv => ?_) (fun x n' σ' hv => ?_)
  · obtain ⟨e0, rfl, rfl⟩ := hv
    cases e0
    rw [xOv_up hn]
    refine z_call C 42 (c_R_readFunction_bad (z := z) (by omega) (by omega) hn (by omega) (va_up_self _ _ _) hz hc hb) w_R_readFunction ini_R d_S_define_39 rfl (z_goV (As := []) C l_S_62 w_R_readFunction d_S_define_39 (by omega) ((xOv_at hn).trans (va_up_self _ _ _)) rfl rfl) (Nat.le_of_ble_eq_true rfl) (by rw [hR]; simp only [zRm]; omega) (by rw [hR]; simp only [zRm]; omega) (by rw [hR]; simp only [zRm]; omega) (by rw [hR]; simp only [zRm]; omega) (fun v n' σ' hv => ?_) (fun x n' σ' hv => ?_)
    · cases hv.1
    · obtain ⟨e0, rfl, rfl⟩ := hv
      cases e0
      exact zx_out C (fun h hh => nomatch hh) (by rw [hpo]; exact ⟨rfl, rfl, rfl⟩) (by rw [hmc]; omega) (by rw [hms]; omega)
  · cases hv.1
def xfn (xf : xF) (c : Int32) : Option Nat := if 65 ≤ c ∧ c ≤ 72 then xf (c - 65).toNatClampNeg else none
theorem xfn_c {c : Int32} (h1 : 65 ≤ c) (h2 : c ≤ 72) : ∃ k, k < 8 ∧ c = nI (65 + k) ∧ c - 65 = nI k := by
  have a1 := Int32.le_iff_toInt_le.mp h1
  have a2 := Int32.le_iff_toInt_le.mp h2
  have e1 : (65 : Int32).toInt = 65 := rfl
  have e2 : (72 : Int32).toInt = 72 := rfl
  rw [e1] at a1
  rw [e2] at a2
  refine ⟨c.toInt.toNat - 65, by omega, ?_, ?_⟩
  · refine Int32.toInt_inj.mp ?_
    rw [nI_toInt (by omega)]
    omega
  · have e : c = nI (c.toInt.toNat - 65) + 65 := by
      rw [show nI (c.toInt.toNat - 65) + 65 = nI (c.toInt.toNat - 65 + 65) from nI_add _ 65]
      refine Int32.toInt_inj.mp ?_
      rw [nI_toInt (by omega)]
      omega
    rw [e, Int32.add_sub_cancel, ← e]
theorem c_S_functionNamed (hn : 85 ≤ n) (c : Int32) : MetZ G l y_S_functionNamed b_S_functionNamed 2 (some (.object "SoleArrays$Function")) [] 0 0 0 [.ref 0, .int c] n (xOv xs xr xa xl xf σ) (fun o n' σ' => o = .returned (some (va_rf (xfn xf c))) ∧ n' = n ∧ σ' = xOv xs xr xa xl xf σ) := by
  refine MetZ.of (by decide) (Nat.le_of_ble_eq_true rfl) (fun K hK hR hpo hmc hms C => ?_)
  refine z_iload_n C 1 d_S_functionNamed_0 rfl rfl ?_
  refine z_bipush C 3 d_S_functionNamed_1 rfl 65 (by decide) ?_
  refine z_icmp_lt C 6 24 d_S_functionNamed_3 rfl (by decide) (fun h1 => ?_) (fun h1 => ?_)
  · refine z_null C 25 d_S_functionNamed_24 rfl ?_
    exact z_aretN C rfl d_S_functionNamed_25 (by rw [hpo]; exact ⟨by rw [xfn, if_neg (fun q => Int32.not_le.mpr h1 q.1)]; rfl, rfl, rfl⟩) (by rw [hmc]; omega) (by rw [hms]; omega)
  refine z_iload_n C 7 d_S_functionNamed_6 rfl rfl ?_
  refine z_bipush C 9 d_S_functionNamed_7 rfl 72 (by decide) ?_
  refine z_icmp_gt C 12 24 d_S_functionNamed_9 rfl (by decide) (fun h2 => ?_) (fun h2 => ?_)
  · refine z_null C 25 d_S_functionNamed_24 rfl ?_
    exact z_aretN C rfl d_S_functionNamed_25 (by rw [hpo]; exact ⟨by rw [xfn, if_neg (fun q => Int32.not_le.mpr h2 q.2)]; rfl, rfl, rfl⟩) (by rw [hmc]; omega) (by rw [hms]; omega)
  refine z_aload_n C 13 d_S_functionNamed_12 rfl rfl ?_
  refine z_get C 16 f_S_22 d_S_functionNamed_13 rfl (by omega) rfl rfl ?_
  refine z_iload_n C 17 d_S_functionNamed_16 rfl rfl ?_
  refine z_bipush C 19 d_S_functionNamed_17 rfl 65 (by decide) ?_
  refine z_isub C 20 d_S_functionNamed_19 rfl ?_
  obtain ⟨k, hk, -, ek⟩ := xfn_c (Int32.not_lt.mp h1) (Int32.not_lt.mp h2)
  refine z_aald C 21 (t := 4) k (xf k) d_S_functionNamed_20 rfl (by omega) rfl rfl rfl ek hk (by decide) rfl ?_
  refine z_goto C 25 d_S_functionNamed_21 (by decide) ?_
  have e : xfn xf c = xf k := by rw [xfn, if_pos ⟨Int32.not_lt.mp h1, Int32.not_lt.mp h2⟩, ek, nI_clamp (by omega)]
  cases hx : xf k with
  | none => exact z_aretN C rfl d_S_functionNamed_25 (by rw [hpo]; exact ⟨by rw [e, hx]; rfl, rfl, rfl⟩) (by rw [hmc]; omega) (by rw [hms]; omega)
  | some q => exact z_aret C rfl d_S_functionNamed_25 (by rw [hpo]; exact ⟨by rw [e, hx]; rfl, rfl, rfl⟩) (by rw [hmc]; omega) (by rw [hms]; omega)
theorem c_S_run_none (hn : 85 ≤ n) (hn2 : n < 1000000) (c : Int32) (hx : xfn xf c = none) : MetZ G l y_S_run b_S_run 3 (some .int) [] 6 1 6 [.ref 0, .int c] n (xOv xs xr xa xl xf σ) (fun o n' σ' => o = .threw n ∧ n' = n + 1 ∧ σ' = xOv xs xr xa xl xf (va_up σ n (.inr (9, [])))) := by
  refine MetZ.of (by decide) (Nat.le_of_ble_eq_true rfl) (fun K hK hR hpo hmc hms C => ?_)
  refine z_aload_n C 1 d_S_run_0 rfl rfl ?_
  refine z_iload_n C 2 d_S_run_1 rfl rfl ?_
  refine z_call C 5 (c_S_functionNamed hn c) w_S_functionNamed ini_S d_S_run_2 rfl (z_goV (As := [.int c]) C l_S_77 w_S_functionNamed d_S_run_2 (by omega) rfl rfl rfl) (Nat.le_of_ble_eq_true rfl) (by rw [hR]; simp only [zRm]; omega) (by rw [hR]; simp only [zRm]; omega) (by rw [hR]; simp only [zRm]; omega) (by rw [hR]; simp only [zRm]; omega) (fun v n' σ' hv => ?_) (fun x n' σ' hv => ?_)
  · rw [hx] at hv
    obtain ⟨e0, e1, rfl⟩ := hv
    cases e0
    obtain rfl : n = n' := e1.symm
    refine z_astore_nN C 6 d_S_run_5 rfl (by decide) ?_
    refine z_aload_nN C 7 d_S_run_6 rfl rfl ?_
    refine z_ifnullN C 17 d_S_run_7 (by decide) ?_
    exact z_throwS C (ci := 9) (names := zNm) (text := "no such function, or one that takes more than numbers") rfl (by decide) zNm_fit cl_S_85 ini_e1 (by decide) at_S_89 d_S_run_17 d_S_run_20 d_S_run_21 d_S_run_23 d_S_run_26 (fun h hh => nomatch hh) (by rw [hR]; show 2 + 3 < _; simp only [zRm]; omega) (by rw [hR]; show _ + (13 * (2 + 1) + 43) ≤ _; simp only [zRm]; exact Nat.le_of_ble_eq_true rfl) (by omega) (by rw [hR]; simp only [zRm]; omega) (by rw [hR]; simp only [zRm]; omega) (by rw [hmc]; omega) (by rw [hms]; omega) (by rw [hpo]; exact ⟨rfl, rfl, xOv_up hn _⟩)
  · cases hv.1
end BX
