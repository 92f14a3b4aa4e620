theorem d_L_define_0 : decode b_L_define 0 = .ok (.aload_n 1, 1) := by decide +kernel
theorem d_L_define_1 : decode b_L_define 1 = .ok (.iconst 0, 1) := by decide +kernel
theorem d_L_define_2 : decode b_L_define 2 = .ok (.aload_n 0, 1) := by decide +kernel
theorem d_L_define_3 : decode b_L_define 3 = .ok (.invokevirtual 7, 3) := by decide +kernel
theorem d_L_define_6 : decode b_L_define 6 = .ok (.i2l, 1) := by decide +kernel
theorem d_L_define_7 : decode b_L_define 7 = .ok (.lastore, 1) := by decide +kernel
theorem d_L_define_8 : decode b_L_define 8 = .ok (.goto 9, 3) := by decide +kernel
theorem d_L_define_11 : decode b_L_define 11 = .ok (.astore_n 2, 1) := by decide +kernel
theorem d_L_define_12 : decode b_L_define 12 = .ok (.iconst 1, 1) := by decide +kernel
theorem d_L_define_13 : decode b_L_define 13 = .ok (.ireturn, 1) := by decide +kernel
theorem d_L_define_14 : decode b_L_define 14 = .ok (.astore_n 2, 1) := by decide +kernel
theorem d_L_define_15 : decode b_L_define 15 = .ok (.iconst 2, 1) := by decide +kernel
theorem d_L_define_16 : decode b_L_define 16 = .ok (.ireturn, 1) := by decide +kernel
theorem d_L_define_17 : decode b_L_define 17 = .ok (.iconst 0, 1) := by decide +kernel
theorem d_L_define_18 : decode b_L_define 18 = .ok (.ireturn, 1) := by decide +kernel
theorem d_L_run_0 : decode b_L_run 0 = .ok (.aload_n 2, 1) := by decide +kernel
theorem d_L_run_1 : decode b_L_run 1 = .ok (.iconst 0, 1) := by decide +kernel
theorem d_L_run_2 : decode b_L_run 2 = .ok (.aload_n 0, 1) := by decide +kernel
theorem d_L_run_3 : decode b_L_run 3 = .ok (.iload_n 1, 1) := by decide +kernel
theorem d_L_run_4 : decode b_L_run 4 = .ok (.invokevirtual 17, 3) := by decide +kernel
theorem d_L_run_7 : decode b_L_run 7 = .ok (.i2l, 1) := by decide +kernel
theorem d_L_run_8 : decode b_L_run 8 = .ok (.lastore, 1) := by decide +kernel
theorem d_L_run_9 : decode b_L_run 9 = .ok (.goto 18, 3) := by decide +kernel
theorem d_L_run_12 : decode b_L_run 12 = .ok (.astore_n 3, 1) := by decide +kernel
theorem d_L_run_13 : decode b_L_run 13 = .ok (.iconst 1, 1) := by decide +kernel
theorem d_L_run_14 : decode b_L_run 14 = .ok (.ireturn, 1) := by decide +kernel
theorem d_L_run_15 : decode b_L_run 15 = .ok (.astore_n 3, 1) := by decide +kernel
theorem d_L_run_16 : decode b_L_run 16 = .ok (.iconst 2, 1) := by decide +kernel
theorem d_L_run_17 : decode b_L_run 17 = .ok (.ireturn, 1) := by decide +kernel
theorem d_L_run_18 : decode b_L_run 18 = .ok (.astore_n 3, 1) := by decide +kernel
theorem d_L_run_19 : decode b_L_run 19 = .ok (.iconst 3, 1) := by decide +kernel
theorem d_L_run_20 : decode b_L_run 20 = .ok (.ireturn, 1) := by decide +kernel
theorem d_L_run_21 : decode b_L_run 21 = .ok (.astore_n 3, 1) := by decide +kernel
theorem d_L_run_22 : decode b_L_run 22 = .ok (.iconst 4, 1) := by decide +kernel
theorem d_L_run_23 : decode b_L_run 23 = .ok (.ireturn, 1) := by decide +kernel
theorem d_L_run_24 : decode b_L_run 24 = .ok (.astore_n 3, 1) := by decide +kernel
theorem d_L_run_25 : decode b_L_run 25 = .ok (.iconst 5, 1) := by decide +kernel
theorem d_L_run_26 : decode b_L_run 26 = .ok (.ireturn, 1) := by decide +kernel
theorem d_L_run_27 : decode b_L_run 27 = .ok (.iconst 0, 1) := by decide +kernel
theorem d_L_run_28 : decode b_L_run 28 = .ok (.ireturn, 1) := by decide +kernel
theorem cl_L_13 : Cond.classLink "SoleArraysLaw" 13 "java/lang/IllegalArgumentException" ∈ zTb := zt2 27 (by decide +kernel) rfl
theorem cl_L_15 : Cond.classLink "SoleArraysLaw" 15 "java/lang/IllegalStateException" ∈ zTb := zt2 28 (by decide +kernel) rfl
theorem cl_L_21 : Cond.classLink "SoleArraysLaw" 21 "java/lang/IndexOutOfBoundsException" ∈ zTb := zt3 167 (by decide +kernel) rfl
theorem cl_L_23 : Cond.classLink "SoleArraysLaw" 23 "java/lang/ArithmeticException" ∈ zTb := zt3 168 (by decide +kernel) rfl
theorem cl_L_25 : Cond.classLink "SoleArraysLaw" 25 "java/lang/UnsupportedOperationException" ∈ zTb := zt3 169 (by decide +kernel) rfl
theorem cs_1 : Cond.castable "java/lang/IllegalArgumentException" "java/lang/IllegalArgumentException" ∈ zTb := zt2 72 (by decide +kernel) rfl
theorem cs_2 : Cond.castable "java/lang/IllegalStateException" "java/lang/IllegalStateException" ∈ zTb := zt3 90 (by decide +kernel) rfl
theorem cs_3 : Cond.castable "java/lang/IndexOutOfBoundsException" "java/lang/IndexOutOfBoundsException" ∈ zTb := zt1 192 (by decide +kernel) rfl
theorem cs_4 : Cond.castable "java/lang/ArithmeticException" "java/lang/ArithmeticException" ∈ zTb := zt3 223 (by decide +kernel) rfl
theorem cs_5 : Cond.castable "java/lang/UnsupportedOperationException" "java/lang/UnsupportedOperationException" ∈ zTb := zt3 199 (by decide +kernel) rfl
section LC
variable {G : zG} {l : Launch} {n : Nat} {σ : zS} {d mc ms : Nat} {post : zPost}
/-- what a call that may throw leaves for the law: the cell 'out', an answer, or an exception of one of the classes 9 .. -/
def lOk (post : zPost) (m : Nat) : Prop := ∀ o n' σ', post o n' σ' → 114 ≤ n' ∧ (∃ g, σ' 113 = .inl (1, 1, .inr (.inl g))) ∧ ((∃ v, o = .returned (some (.int v))) ∨ ∃ x c, o = .threw x ∧ x < n' ∧ c < m ∧ σ' x = .inr (9 + c, []))
/-- .. and what the law's helper makes of it: 0 and the answer in 'out', or the number of the exception -/
def lPost (post : zPost) : zPost := fun o n' σ' => (∃ v σ0 g, post (.returned (some (.int v))) n' σ0 ∧ σ0 113 = .inl (1, 1, .inr (.inl g)) ∧ o = .returned (some (.int 0)) ∧ σ' = va_up σ0 113 (.inl (1, 1, .inr (.inl (vp_updL g 0 v.toInt64))))) ∨ (∃ x c, post (.threw x) n' σ' ∧ σ' x = .inr (9 + c, []) ∧ o = .returned (some (.int (nI (c + 1)))))
theorem c_L_define (hM : MetZ G l y_S_define b_S_define 3 (some .int) [] d mc ms [.ref 0] n σ post) (hok : lOk post 2) (hn : 1 ≤ n) (hσ : ∃ fs, σ 0 = .inr (0, fs)) : MetZ G l y_L_define b_L_define 3 (some .int) [(0, 8, 11, 13), (0, 8, 14, 15)] (d + 1) mc ms [.ref 0, .ref 113] n σ (lPost post) := by
  refine MetZ.of (by decide) (Nat.le_of_ble_eq_true rfl) (fun K hK hR hpo hmc hms C => ?_)
  obtain ⟨fs, hσ⟩ := hσ
  refine z_aload_n C 1 d_L_define_0 rfl rfl ?_
  refine z_iconst C 2 d_L_define_1 rfl 0 (by decide) ?_
  refine z_aload_n C 3 d_L_define_2 rfl rfl ?_
  refine z_call C 6 (hK ▸ hM) w_S_define ini_S d_L_define_3 rfl (z_goV (As := []) C l_L_7 w_S_define d_L_define_3 (by omega) hσ rfl rfl) (Nat.le_of_ble_eq_true rfl) (by rw [hR]; simp only [zRm]; omega) (by rw [hR]; simp only [zRm]; omega) (by rw [hR]; simp only [zRm]; omega) (by rw [hR]; simp only [zRm]; omega) (fun v n' σ' hv => ?_) (fun x n' σ' hv => ?_)
  · obtain ⟨h1, ⟨g, h2⟩, h3⟩ := hok _ _ _ hv
    rcases h3 with ⟨v0, h3⟩ | ⟨x, c, h3, -⟩
    · cases h3
      refine z_i2l C 7 d_L_define_6 rfl ?_
      refine z_last C 8 0 d_L_define_7 rfl (by omega) h2 rfl (by decide) (by decide) ?_
      refine z_goto C 17 d_L_define_8 (by decide) ?_
      refine z_iconst C 18 d_L_define_17 rfl 0 (by decide) ?_
      exact z_iret C rfl d_L_define_18 (by rw [hpo]; exact Or.inl ⟨v0, σ', g, hv, h2, rfl, rfl⟩) (by rw [hmc]; omega) (by rw [hms]; omega)
    · cases h3
  · obtain ⟨h1, ⟨g, h2⟩, h3⟩ := hok _ _ _ hv
    rcases h3 with ⟨v0, h3⟩ | ⟨x', c, h3, hx, hc, hcell⟩
    · cases h3
    · cases h3
      rcases (show c = 0 ∨ c = 1 by omega) with rfl | rfl
      · refine zx_catch C [] (0, 8, 11, 13) [(0, 8, 14, 15)] rfl hx hcell rfl (fun z hz => nomatch hz) rfl (by decide) cl_L_13 cs_1 ?_
        refine z_astore_n C 12 d_L_define_11 rfl (by decide) ?_
        refine z_iconst C 13 d_L_define_12 rfl 1 (by decide) ?_
        exact z_iret C rfl d_L_define_13 (by rw [hpo]; exact Or.inr ⟨x, 0, hv, hcell, rfl⟩) (by rw [hmc]; omega) (by rw [hms]; omega)
      · refine zx_catch C [(0, 8, 11, 13)] (0, 8, 14, 15) [] rfl hx hcell rfl (fun z hz => Or.inr ?_) rfl (by decide) cl_L_15 cs_2 ?_
        · rw [List.mem_singleton.mp hz]
          exact ⟨by decide, _, cl_L_13, by decide⟩
        refine z_astore_n C 15 d_L_define_14 rfl (by decide) ?_
        refine z_iconst C 16 d_L_define_15 rfl 2 (by decide) ?_
        exact z_iret C rfl d_L_define_16 (by rw [hpo]; exact Or.inr ⟨x, 1, hv, hcell, rfl⟩) (by rw [hmc]; omega) (by rw [hms]; omega)
theorem c_L_run {a : Int32} (hM : MetZ G l y_S_run b_S_run 3 (some .int) [] d mc ms [.ref 0, .int a] n σ post) (hok : lOk post 5) (hn : 1 ≤ n) (hσ : ∃ fs, σ 0 = .inr (0, fs)) : MetZ G l y_L_run b_L_run 4 (some .int) [(0, 9, 12, 13), (0, 9, 15, 15), (0, 9, 18, 21), (0, 9, 21, 23), (0, 9, 24, 25)] (d + 1) mc ms [.ref 0, .int a, .ref 113] n σ (lPost post) := by
  refine MetZ.of (by decide) (Nat.le_of_ble_eq_true rfl) (fun K hK hR hpo hmc hms C => ?_)
  obtain ⟨fs, hσ⟩ := hσ
  refine z_aload_n C 1 d_L_run_0 rfl rfl ?_
  refine z_iconst C 2 d_L_run_1 rfl 0 (by decide) ?_
  refine z_aload_n C 3 d_L_run_2 rfl rfl ?_
  refine z_iload_n C 4 d_L_run_3 rfl rfl ?_
  refine z_call C 7 (hK ▸ hM) w_S_run ini_S d_L_run_4 rfl (z_goV (As := [.int a]) C l_L_17 w_S_run d_L_run_4 (by omega) hσ rfl rfl) (Nat.le_of_ble_eq_true rfl) (by rw [hR]; simp only [zRm]; omega) (by rw [hR]; simp only [zRm]; omega) (by rw [hR]; simp only [zRm]; omega) (by rw [hR]; simp only [zRm]; omega) (fun v n' σ' hv => ?_) (fun x n' σ' hv => ?_)
  · obtain ⟨h1, ⟨g, h2⟩, h3⟩ := hok _ _ _ hv
    rcases h3 with ⟨v0, h3⟩ | ⟨x, c, h3, -⟩
    · cases h3
      refine z_i2l C 8 d_L_run_7 rfl ?_
      refine z_last C 9 0 d_L_run_8 rfl (by omega) h2 rfl (by decide) (by decide) ?_
      refine z_goto C 27 d_L_run_9 (by decide) ?_
      refine z_iconst C 28 d_L_run_27 rfl 0 (by decide) ?_
      exact z_iret C rfl d_L_run_28 (by rw [hpo]; exact Or.inl ⟨v0, σ', g, hv, h2, rfl, rfl⟩) (by rw [hmc]; omega) (by rw [hms]; omega)
    · cases h3
  · obtain ⟨h1, ⟨g, h2⟩, h3⟩ := hok _ _ _ hv
    rcases h3 with ⟨v0, h3⟩ | ⟨x', c, h3, hx, hc, hcell⟩
    · cases h3
    · cases h3
      have p1 : (((0, 9, 12, 13) : Nat × Nat × Nat × Nat).2.2.2 ≠ 0) := by decide
      rcases (show c = 0 ∨ c = 1 ∨ c = 2 ∨ c = 3 ∨ c = 4 by omega) with rfl | rfl | rfl | rfl | rfl
      · refine zx_catch C [] (0, 9, 12, 13) [(0, 9, 15, 15), (0, 9, 18, 21), (0, 9, 21, 23), (0, 9, 24, 25)] rfl hx hcell rfl (fun z hz => nomatch hz) rfl (by decide) cl_L_13 cs_1 ?_
        refine z_astore_n C 13 d_L_run_12 rfl (by decide) ?_
        refine z_iconst C 14 d_L_run_13 rfl 1 (by decide) ?_
        exact z_iret C rfl d_L_run_14 (by rw [hpo]; exact Or.inr ⟨x, 0, hv, hcell, rfl⟩) (by rw [hmc]; omega) (by rw [hms]; omega)
      · refine zx_catch C [(0, 9, 12, 13)] (0, 9, 15, 15) [(0, 9, 18, 21), (0, 9, 21, 23), (0, 9, 24, 25)] rfl hx hcell rfl (fun z hz => Or.inr ?_) rfl (by decide) cl_L_15 cs_2 ?_
        · rw [List.mem_singleton.mp hz]
          exact ⟨by decide, _, cl_L_13, by decide⟩
        refine z_astore_n C 16 d_L_run_15 rfl (by decide) ?_
        refine z_iconst C 17 d_L_run_16 rfl 2 (by decide) ?_
        exact z_iret C rfl d_L_run_17 (by rw [hpo]; exact Or.inr ⟨x, 1, hv, hcell, rfl⟩) (by rw [hmc]; omega) (by rw [hms]; omega)
      · refine zx_catch C [(0, 9, 12, 13), (0, 9, 15, 15)] (0, 9, 18, 21) [(0, 9, 21, 23), (0, 9, 24, 25)] rfl hx hcell rfl (fun z hz => Or.inr ?_) rfl (by decide) cl_L_21 cs_3 ?_
        · rcases List.mem_cons.mp hz with rfl | hz
          · exact ⟨by decide, _, cl_L_13, by decide⟩
          rw [List.mem_singleton.mp hz]
          exact ⟨by decide, _, cl_L_15, by decide⟩
        refine z_astore_n C 19 d_L_run_18 rfl (by decide) ?_
        refine z_iconst C 20 d_L_run_19 rfl 3 (by decide) ?_
        exact z_iret C rfl d_L_run_20 (by rw [hpo]; exact Or.inr ⟨x, 2, hv, hcell, rfl⟩) (by rw [hmc]; omega) (by rw [hms]; omega)
      · refine zx_catch C [(0, 9, 12, 13), (0, 9, 15, 15), (0, 9, 18, 21)] (0, 9, 21, 23) [(0, 9, 24, 25)] rfl hx hcell rfl (fun z hz => Or.inr ?_) rfl (by decide) cl_L_23 cs_4 ?_
        · rcases List.mem_cons.mp hz with rfl | hz
          · exact ⟨by decide, _, cl_L_13, by decide⟩
          rcases List.mem_cons.mp hz with rfl | hz
          · exact ⟨by decide, _, cl_L_15, by decide⟩
          rw [List.mem_singleton.mp hz]
          exact ⟨by decide, _, cl_L_21, by decide⟩
        refine z_astore_n C 22 d_L_run_21 rfl (by decide) ?_
        refine z_iconst C 23 d_L_run_22 rfl 4 (by decide) ?_
        exact z_iret C rfl d_L_run_23 (by rw [hpo]; exact Or.inr ⟨x, 3, hv, hcell, rfl⟩) (by rw [hmc]; omega) (by rw [hms]; omega)
      · refine zx_catch C [(0, 9, 12, 13), (0, 9, 15, 15), (0, 9, 18, 21), (0, 9, 21, 23)] (0, 9, 24, 25) [] rfl hx hcell rfl (fun z hz => Or.inr ?_) rfl (by decide) cl_L_25 cs_5 ?_
        · rcases List.mem_cons.mp hz with rfl | hz
          · exact ⟨by decide, _, cl_L_13, by decide⟩
          rcases List.mem_cons.mp hz with rfl | hz
          · exact ⟨by decide, _, cl_L_15, by decide⟩
          rcases List.mem_cons.mp hz with rfl | hz
          · exact ⟨by decide, _, cl_L_21, by decide⟩
          rw [List.mem_singleton.mp hz]
          exact ⟨by decide, _, cl_L_23, by decide⟩
        refine z_astore_n C 25 d_L_run_24 rfl (by decide) ?_
        refine z_iconst C 26 d_L_run_25 rfl 5 (by decide) ?_
        exact z_iret C rfl d_L_run_26 (by rw [hpo]; exact Or.inr ⟨x, 4, hv, hcell, rfl⟩) (by rw [hmc]; omega) (by rw [hms]; omega)
end LC
