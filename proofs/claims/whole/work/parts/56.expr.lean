theorem d_R_take_0 : decode b_R_take 0 = .ok (.aload_n 0, 1) := by decide +kernel
theorem d_R_take_1 : decode b_R_take 1 = .ok (.invokevirtual 39, 3) := by decide +kernel
theorem d_R_take_4 : decode b_R_take 4 = .ok (.iload_n 1, 1) := by decide +kernel
theorem d_R_take_5 : decode b_R_take 5 = .ok (.if_icmp .eq 14, 3) := by decide +kernel
theorem d_R_take_8 : decode b_R_take 8 = .ok (.aload_n 0, 1) := by decide +kernel
theorem d_R_take_9 : decode b_R_take 9 = .ok (.getfield 22, 3) := by decide +kernel
theorem d_R_take_12 : decode b_R_take 12 = .ok (.aload_n 0, 1) := by decide +kernel
theorem d_R_take_13 : decode b_R_take 13 = .ok (.getfield 9, 3) := by decide +kernel
theorem d_R_take_16 : decode b_R_take 16 = .ok (.invokevirtual 61, 3) := by decide +kernel
theorem d_R_take_19 : decode b_R_take 19 = .ok (.aload_n 0, 1) := by decide +kernel
theorem d_R_take_20 : decode b_R_take 20 = .ok (.dup, 1) := by decide +kernel
theorem d_R_take_21 : decode b_R_take 21 = .ok (.getfield 9, 3) := by decide +kernel
theorem d_R_take_24 : decode b_R_take 24 = .ok (.iconst 1, 1) := by decide +kernel
theorem d_R_take_25 : decode b_R_take 25 = .ok (.iadd, 1) := by decide +kernel
theorem d_R_take_26 : decode b_R_take 26 = .ok (.putfield 9, 3) := by decide +kernel
theorem d_R_take_29 : decode b_R_take 29 = .ok (.return_, 1) := by decide +kernel
theorem d_R_takeCommaBefore_0 : decode b_R_takeCommaBefore 0 = .ok (.iload_n 1, 1) := by decide +kernel
theorem d_R_takeCommaBefore_1 : decode b_R_takeCommaBefore 1 = .ok (.ifCond .le 9, 3) := by decide +kernel
theorem d_R_takeCommaBefore_4 : decode b_R_takeCommaBefore 4 = .ok (.aload_n 0, 1) := by decide +kernel
theorem d_R_takeCommaBefore_5 : decode b_R_takeCommaBefore 5 = .ok (.bipush 44, 2) := by decide +kernel
theorem d_R_takeCommaBefore_7 : decode b_R_takeCommaBefore 7 = .ok (.invokevirtual 35, 3) := by decide +kernel
theorem d_R_takeCommaBefore_10 : decode b_R_takeCommaBefore 10 = .ok (.return_, 1) := by decide +kernel
theorem d_R_refuse_0 : decode b_R_refuse 0 = .ok (.aload_n 0, 1) := by decide +kernel
theorem d_R_refuse_1 : decode b_R_refuse 1 = .ok (.getfield 22, 3) := by decide +kernel
theorem d_R_refuse_4 : decode b_R_refuse 4 = .ok (.aload_n 0, 1) := by decide +kernel
theorem d_R_refuse_5 : decode b_R_refuse 5 = .ok (.getfield 9, 3) := by decide +kernel
theorem d_R_refuse_8 : decode b_R_refuse 8 = .ok (.invokevirtual 61, 3) := by decide +kernel
theorem d_R_refuse_11 : decode b_R_refuse 11 = .ok (.aconst_null, 1) := by decide +kernel
theorem d_R_refuse_12 : decode b_R_refuse 12 = .ok (.areturn, 1) := by decide +kernel
theorem d_E_init_0 : decode b_E_init 0 = .ok (.aload_n 0, 1) := by decide +kernel
theorem d_E_init_1 : decode b_E_init 1 = .ok (.invokespecial 3, 3) := by decide +kernel
theorem d_E_init_4 : decode b_E_init 4 = .ok (.aload_n 0, 1) := by decide +kernel
theorem d_E_init_5 : decode b_E_init 5 = .ok (.iconst 4, 1) := by decide +kernel
theorem d_E_init_6 : decode b_E_init 6 = .ok (.anewarray 9, 3) := by decide +kernel
theorem d_E_init_9 : decode b_E_init 9 = .ok (.putfield 11, 3) := by decide +kernel
theorem d_E_init_12 : decode b_E_init 12 = .ok (.aload_n 0, 1) := by decide +kernel
theorem d_E_init_13 : decode b_E_init 13 = .ok (.iconst 0, 1) := by decide +kernel
theorem d_E_init_14 : decode b_E_init 14 = .ok (.putfield 15, 3) := by decide +kernel
theorem d_E_init_17 : decode b_E_init 17 = .ok (.aload_n 0, 1) := by decide +kernel
theorem d_E_init_18 : decode b_E_init 18 = .ok (.lconst 0, 1) := by decide +kernel
theorem d_E_init_19 : decode b_E_init 19 = .ok (.putfield 19, 3) := by decide +kernel
theorem d_E_init_22 : decode b_E_init 22 = .ok (.aload_n 0, 1) := by decide +kernel
theorem d_E_init_23 : decode b_E_init 23 = .ok (.bipush 32, 2) := by decide +kernel
theorem d_E_init_25 : decode b_E_init 25 = .ok (.putfield 23, 3) := by decide +kernel
theorem d_E_init_28 : decode b_E_init 28 = .ok (.aload_n 0, 1) := by decide +kernel
theorem d_E_init_29 : decode b_E_init 29 = .ok (.iconst 0, 1) := by decide +kernel
theorem d_E_init_30 : decode b_E_init 30 = .ok (.putfield 27, 3) := by decide +kernel
theorem d_E_init_33 : decode b_E_init 33 = .ok (.aload_n 0, 1) := by decide +kernel
theorem d_E_init_34 : decode b_E_init 34 = .ok (.iconst 0, 1) := by decide +kernel
theorem d_E_init_35 : decode b_E_init 35 = .ok (.putfield 30, 3) := by decide +kernel
theorem d_E_init_38 : decode b_E_init 38 = .ok (.aload_n 0, 1) := by decide +kernel
theorem d_E_init_39 : decode b_E_init 39 = .ok (.iconst 0, 1) := by decide +kernel
theorem d_E_init_40 : decode b_E_init 40 = .ok (.putfield 33, 3) := by decide +kernel
theorem d_E_init_43 : decode b_E_init 43 = .ok (.aload_n 0, 1) := by decide +kernel
theorem d_E_init_44 : decode b_E_init 44 = .ok (.aconst_null, 1) := by decide +kernel
theorem d_E_init_45 : decode b_E_init 45 = .ok (.putfield 36, 3) := by decide +kernel
theorem d_E_init_48 : decode b_E_init 48 = .ok (.aload_n 0, 1) := by decide +kernel
theorem d_E_init_49 : decode b_E_init 49 = .ok (.aload_n 1, 1) := by decide +kernel
theorem d_E_init_50 : decode b_E_init 50 = .ok (.putfield 40, 3) := by decide +kernel
theorem d_E_init_53 : decode b_E_init 53 = .ok (.aload_n 0, 1) := by decide +kernel
theorem d_E_init_54 : decode b_E_init 54 = .ok (.iload_n 2, 1) := by decide +kernel
theorem d_E_init_55 : decode b_E_init 55 = .ok (.putfield 44, 3) := by decide +kernel
theorem d_E_init_58 : decode b_E_init 58 = .ok (.return_, 1) := by decide +kernel
theorem d_E_add_0 : decode b_E_add 0 = .ok (.aload_n 0, 1) := by decide +kernel
theorem d_E_add_1 : decode b_E_add 1 = .ok (.getfield 15, 3) := by decide +kernel
theorem d_E_add_4 : decode b_E_add 4 = .ok (.iconst 4, 1) := by decide +kernel
theorem d_E_add_5 : decode b_E_add 5 = .ok (.if_icmp .ge 23, 3) := by decide +kernel
theorem d_E_add_8 : decode b_E_add 8 = .ok (.aload_n 0, 1) := by decide +kernel
theorem d_E_add_9 : decode b_E_add 9 = .ok (.getfield 11, 3) := by decide +kernel
theorem d_E_add_12 : decode b_E_add 12 = .ok (.aload_n 0, 1) := by decide +kernel
theorem d_E_add_13 : decode b_E_add 13 = .ok (.getfield 15, 3) := by decide +kernel
theorem d_E_add_16 : decode b_E_add 16 = .ok (.aload_n 1, 1) := by decide +kernel
theorem d_E_add_17 : decode b_E_add 17 = .ok (.aastore, 1) := by decide +kernel
theorem d_E_add_18 : decode b_E_add 18 = .ok (.aload_n 0, 1) := by decide +kernel
theorem d_E_add_19 : decode b_E_add 19 = .ok (.dup, 1) := by decide +kernel
theorem d_E_add_20 : decode b_E_add 20 = .ok (.getfield 15, 3) := by decide +kernel
theorem d_E_add_23 : decode b_E_add 23 = .ok (.iconst 1, 1) := by decide +kernel
theorem d_E_add_24 : decode b_E_add 24 = .ok (.iadd, 1) := by decide +kernel
theorem d_E_add_25 : decode b_E_add 25 = .ok (.putfield 15, 3) := by decide +kernel
theorem d_E_add_28 : decode b_E_add 28 = .ok (.return_, 1) := by decide +kernel
theorem cl_E_9 : Cond.classLink "SoleArrays$Expression" 9 "SoleArrays$Expression" ∈ zTb := zt2 166 (by decide +kernel) rfl
theorem va_comm {α : Type} (f : Nat → α) {i j : Nat} (a b : α) (h : i ≠ j) : va_up (va_up f i a) j b = va_up (va_up f j b) i a := by
  funext k
  by_cases h1 : k = i
  · subst h1
    rw [va_up_self, va_up_ne _ _ h, va_up_self]
  · rw [va_up_ne (va_up f j b) a h1]
    by_cases h2 : k = j
    · subst h2; rw [va_up_self, va_up_self]
    · rw [va_up_ne _ _ h2, va_up_ne _ _ h2, va_up_ne _ _ h1]
section EX
variable {G : zG} {l : Launch} {n r p z B N : Nat} {σ : zS} {xs : mS} {xr : Int64} {xa : mA} {xl : mL} {xf : xF} {E : Nat → eN}
theorem c_R_take (hn : 85 ≤ n) (hn2 : n < 1000000) (hr : 85 ≤ r) (hrn : r < n) (hrd0 : σ r = rdC p z) (hz : z ≤ 150) (hp : p ≤ 150) (hc : ∀ i, i < 150 → narrow .char (.int (xa 1 i)) = .int (xa 1 i)) (c : Int32) {mc ms : Nat} (hm : xlk xa p z ≠ c → 1 ≤ mc ∧ 6 ≤ ms) : MetZ G l y_R_take b_R_take 2 none [] 7 mc ms [.ref r, .int c] n (xOv xs xr xa xl xf σ)
    (fun o n' σ' => (xlk xa p z = c ∧ o = .returned none ∧ n' = n ∧ σ' = xOv xs xr xa xl xf (va_up σ r (rdC (p + 1) z))) ∨ (xlk xa p z ≠ c ∧ o = .threw n ∧ n' = n + 1 ∧ σ' = xOv (upd xs 4 (nI p)) xr xa xl xf (va_up σ n (.inr (9, []))))) := by
  have hrd : xOv xs xr xa xl xf σ r = .inr (4, [.ref 1, .int (nI z), .ref 2, .int (nI p)]) := (xOv_at hr).trans hrd0
  refine MetZ.of (by decide) (Nat.le_of_ble_eq_true rfl) (fun K hK hR hpo hmc hms C => ?_)
  refine z_aload_n C 1 d_R_take_0 rfl rfl ?_
  refine z_call C 4 (c_R_next hn hr hrn hrd0 hz hp hc) w_R_next ini_R d_R_take_1 rfl (z_goV (As := []) C l_R_39 w_R_next d_R_take_1 (by omega) (hrd) rfl rfl) (Nat.le_of_ble_eq_true rfl) (by rw [hR]; simp only [zRm]; omega) (by rw [hR]; simp only [zRm]; omega) (by rw [hR]; simp only [zRm]; omega) (by rw [hR]; simp only [zRm]; omega) (fun v n' σ' hv => ?_) (fun x n' σ' hv => ?_)
  · obtain ⟨e0, e1, rfl⟩ := hv
    cases e0
    obtain rfl : n = n' := e1.symm
    refine z_iload_n C 5 d_R_take_4 rfl rfl ?_
    refine z_icmp_eq C 8 19 d_R_take_5 rfl (by decide) (fun h1 => ?_) (fun h1 => ?_)
    · refine z_aload_n C 20 d_R_take_19 rfl rfl ?_
      refine z_dup C 21 d_R_take_20 rfl rfl ?_
      refine z_get C 24 f_R_9 d_R_take_21 rfl (by omega) hrd rfl ?_
      refine z_iconst C 25 d_R_take_24 rfl 1 (by decide) ?_
      refine z_iadd C 26 d_R_take_25 rfl ?_
      refine z_put C 29 p_R_9 d_R_take_26 rfl hrn hrd (z_ltb rfl) rfl rfl ?_
      exact z_vret C rfl d_R_take_29 (by rw [hpo]; exact Or.inl ⟨h1, rfl, rfl, by rw [xOv_up hr]; show xOv _ _ _ _ _ (va_up σ r (.inr (4, [.ref 1, .int (nI z), .ref 2, .int (nI p + 1)]))) = _; rw [nI_1]; rfl⟩) (by rw [hmc]; omega) (by rw [hms]; omega)
    · have hm' := hm h1
      refine z_aload_n C 9 d_R_take_8 rfl rfl ?_
      refine z_get C 12 f_R_22 d_R_take_9 rfl (by omega) hrd rfl ?_
      refine z_aload_n C 13 d_R_take_12 rfl rfl ?_
      refine z_get C 16 f_R_9 d_R_take_13 rfl (by omega) hrd rfl ?_
      refine z_call C 19 (c_T_ill hn hn2 (nI p)) w_T_ill ini_T d_R_take_16 rfl (z_goV (As := [.int (nI p)]) C l_R_61 w_T_ill d_R_take_16 (by omega) rfl rfl rfl) (Nat.le_of_ble_eq_true rfl) (by rw [hR]; simp only [zRm]; omega) (by rw [hR]; simp only [zRm]; omega) (by rw [hR]; simp only [zRm]; omega) (by rw [hR]; simp only [zRm]; omega) (fun v n' σ' hv => ?_) (fun x n' σ' hv => ?_)
      · cases hv.1
      · obtain ⟨e0, rfl, rfl⟩ := hv
        cases e0
        exact zx_out C (fun h hh => nomatch hh) (by rw [hpo]; exact Or.inr ⟨h1, rfl, rfl, rfl⟩) (by rw [hmc]; omega) (by rw [hms]; omega)
  · cases hv.1
theorem c_R_nextIsOneOf (hn : 85 ≤ n) (hr : 85 ≤ r) (hrn : r < n) (hrd0 : σ r = rdC p z) (hz : z ≤ 150) (hp : p ≤ 150) (hc : ∀ i, i < 150 → narrow .char (.int (xa 1 i)) = .int (xa 1 i)) (lo hi : Int32) : MetZ G l y_R_nextIsOneOf b_R_nextIsOneOf 3 (some .boolean) [] 1 0 0 [.ref r, .int lo, .int hi] n (xOv xs xr xa xl xf σ)
    (fun o n' σ' => o = .returned (some (.int (if lo ≤ xlk xa p z ∧ xlk xa p z ≤ hi then 1 else 0))) ∧ n' = n ∧ σ' = xOv xs xr xa xl xf σ) := by
  have hrd : xOv xs xr xa xl xf σ r = .inr (4, [.ref 1, .int (nI z), .ref 2, .int (nI p)]) := (xOv_at hr).trans hrd0
  refine MetZ.of (by decide) (Nat.le_of_ble_eq_true rfl) (fun K hK hR hpo hmc hms C => ?_)
  refine z_aload_n C 1 d_R_nextIsOneOf_0 rfl rfl ?_
  refine z_call C 4 (c_R_next hn hr hrn hrd0 hz hp hc) w_R_next ini_R d_R_nextIsOneOf_1 rfl (z_goV (As := []) C l_R_39 w_R_next d_R_nextIsOneOf_1 (by omega) (hrd) rfl rfl) (Nat.le_of_ble_eq_true rfl) (by rw [hR]; simp only [zRm]; omega) (by rw [hR]; simp only [zRm]; omega) (by rw [hR]; simp only [zRm]; omega) (by rw [hR]; simp only [zRm]; omega) (fun v n' σ' hv => ?_) (fun x n' σ' hv => ?_)
  · obtain ⟨e0, e1, rfl⟩ := hv
    cases e0
    obtain rfl : n = n' := e1.symm
    refine z_iload_n C 5 d_R_nextIsOneOf_4 rfl rfl ?_
    refine z_icmp_lt C 8 20 d_R_nextIsOneOf_5 rfl (by decide) (fun h1 => ?_) (fun h1 => ?_)
    · refine z_iconst C 21 d_R_nextIsOneOf_20 rfl 0 (by decide) ?_
      exact z_zret C rfl (rfl) d_R_nextIsOneOf_21 (by rw [hpo]; exact ⟨by rw [if_neg (fun q => Int32.not_le.mpr h1 q.1)], rfl, rfl⟩) (by rw [hmc]; omega) (by rw [hms]; omega)
    refine z_aload_n C 9 d_R_nextIsOneOf_8 rfl rfl ?_
    refine z_call C 12 (c_R_next hn hr hrn hrd0 hz hp hc) w_R_next ini_R d_R_nextIsOneOf_9 rfl (z_goV (As := []) C l_R_39 w_R_next d_R_nextIsOneOf_9 (by omega) (hrd) rfl rfl) (Nat.le_of_ble_eq_true rfl) (by rw [hR]; simp only [zRm]; omega) (by rw [hR]; simp only [zRm]; omega) (by rw [hR]; simp only [zRm]; omega) (by rw [hR]; simp only [zRm]; omega) (fun v n' σ' hv => ?_) (fun x n' σ' hv => ?_)
    · obtain ⟨e0, e1, rfl⟩ := hv
      cases e0
      obtain rfl : n = n' := e1.symm
      refine z_iload_n C 13 d_R_nextIsOneOf_12 rfl rfl ?_
      refine z_icmp_gt C 16 20 d_R_nextIsOneOf_13 rfl (by decide) (fun h2 => ?_) (fun h2 => ?_)
      · refine z_iconst C 21 d_R_nextIsOneOf_20 rfl 0 (by decide) ?_
        exact z_zret C rfl (rfl) d_R_nextIsOneOf_21 (by rw [hpo]; exact ⟨by rw [if_neg (fun q => Int32.not_le.mpr h2 q.2)], rfl, rfl⟩) (by rw [hmc]; omega) (by rw [hms]; omega)
      · refine z_iconst C 17 d_R_nextIsOneOf_16 rfl 1 (by decide) ?_
        refine z_goto C 21 d_R_nextIsOneOf_17 (by decide) ?_
        exact z_zret C rfl (rfl) d_R_nextIsOneOf_21 (by rw [hpo]; exact ⟨by rw [if_pos ⟨Int32.not_lt.mp h1, Int32.not_lt.mp h2⟩], rfl, rfl⟩) (by rw [hmc]; omega) (by rw [hms]; omega)
    · cases hv.1
  · cases hv.1
theorem c_R_refuse (hn : 85 ≤ n) (hn2 : n < 1000000) (hr : 85 ≤ r) (hrn : r < n) (hrd0 : σ r = rdC p z) : MetZ G l y_R_refuse b_R_refuse 1 (some (.object "SoleArrays$Expression")) [] 7 1 6 [.ref r] n (xOv xs xr xa xl xf σ)
    (fun o n' σ' => o = .threw n ∧ n' = n + 1 ∧ σ' = xOv (upd xs 4 (nI p)) xr xa xl xf (va_up σ n (.inr (9, [])))) := by
  have hrd : xOv xs xr xa xl xf σ r = .inr (4, [.ref 1, .int (nI z), .ref 2, .int (nI p)]) := (xOv_at hr).trans hrd0
  refine MetZ.of (by decide) (Nat.le_of_ble_eq_true rfl) (fun K hK hR hpo hmc hms C => ?_)
  refine z_aload_n C 1 d_R_refuse_0 rfl rfl ?_
  refine z_get C 4 f_R_22 d_R_refuse_1 rfl (by omega) hrd rfl ?_
  refine z_aload_n C 5 d_R_refuse_4 rfl rfl ?_
  refine z_get C 8 f_R_9 d_R_refuse_5 rfl (by omega) hrd rfl ?_
  refine z_call C 11 (c_T_ill hn hn2 (nI p)) w_T_ill ini_T d_R_refuse_8 rfl (z_goV (As := [.int (nI p)]) C l_R_61 w_T_ill d_R_refuse_8 (by omega) rfl rfl rfl) (Nat.le_of_ble_eq_true rfl) (by rw [hR]; simp only [zRm]; omega) (by rw [hR]; simp only [zRm]; omega) (by rw [hR]; simp only [zRm]; omega) (by rw [hR]; simp only [zRm]; omega) (fun v n' σ' hv => ?_) (fun x n' σ' hv => ?_)
  · cases hv.1
  · obtain ⟨e0, rfl, rfl⟩ := hv
    cases e0
    exact zx_out C (fun h hh => nomatch hh) (by rw [hpo]; exact ⟨rfl, rfl, rfl⟩) (by rw [hmc]; omega) (by rw [hms]; omega)
theorem c_R_takeCommaBefore (hn : 85 ≤ n) (hn2 : n < 1000000) (hr : 85 ≤ r) (hrn : r < n) (hrd0 : σ r = rdC p z) (hz : z ≤ 150) (hp : p ≤ 150) (hc : ∀ i, i < 150 → narrow .char (.int (xa 1 i)) = .int (xa 1 i)) {k : Nat} (hk : k < 5) {mc ms : Nat} (hm : 0 < k → xlk xa p z ≠ 44 → 1 ≤ mc ∧ 6 ≤ ms) : MetZ G l y_R_takeCommaBefore b_R_takeCommaBefore 2 none [] 8 mc ms [.ref r, .int (nI k)] n (xOv xs xr xa xl xf σ)
    (fun o n' σ' => (k = 0 ∧ o = .returned none ∧ n' = n ∧ σ' = xOv xs xr xa xl xf σ) ∨ (0 < k ∧ xlk xa p z = 44 ∧ o = .returned none ∧ n' = n ∧ σ' = xOv xs xr xa xl xf (va_up σ r (rdC (p + 1) z))) ∨ (0 < k ∧ xlk xa p z ≠ 44 ∧ o = .threw n ∧ n' = n + 1 ∧ σ' = xOv (upd xs 4 (nI p)) xr xa xl xf (va_up σ n (.inr (9, []))))) := by
  have hrd : xOv xs xr xa xl xf σ r = .inr (4, [.ref 1, .int (nI z), .ref 2, .int (nI p)]) := (xOv_at hr).trans hrd0
  refine MetZ.of (by decide) (Nat.le_of_ble_eq_true rfl) (fun K hK hR hpo hmc hms C => ?_)
  refine z_iload_n C 1 d_R_takeCommaBefore_0 rfl rfl ?_
  refine z_if_le C 4 10 d_R_takeCommaBefore_1 rfl (by decide) (fun h1 => ?_) (fun h1 => ?_)
  · have hk0 : k = 0 := Decidable.byContradiction fun q => nI_nle (by omega) (by omega) h1
    exact z_vret C rfl d_R_takeCommaBefore_10 (by rw [hpo]; exact Or.inl ⟨hk0, rfl, rfl, rfl⟩) (by rw [hmc]; omega) (by rw [hms]; omega)
  · have hk0 : 0 < k := Nat.pos_of_ne_zero fun q => h1 (by rw [q]; decide)
    refine z_aload_n C 5 d_R_takeCommaBefore_4 rfl rfl ?_
    refine z_bipush C 7 d_R_takeCommaBefore_5 rfl 44 (by decide) ?_
    refine z_call C 10 (c_R_take hn hn2 hr hrn hrd0 hz hp hc 44 (mc := mc) (ms := ms) (hm hk0)) w_R_take ini_R d_R_takeCommaBefore_7 rfl (z_goV (As := [.int 44]) C l_R_35 w_R_take d_R_takeCommaBefore_7 (by omega) (hrd) rfl rfl) (Nat.le_of_ble_eq_true rfl) (by rw [hR]; simp only [zRm]; omega) (by rw [hR]; simp only [zRm]; omega) (by rw [hR]; simp only [zRm]; omega) (by rw [hR]; simp only [zRm]; omega) (fun v n' σ' hv => ?_) (fun x n' σ' hv => ?_)
    · rcases hv with ⟨h2, e0, rfl, rfl⟩ | ⟨-, e0, -⟩
      · cases e0
        exact z_vret C rfl d_R_takeCommaBefore_10 (by rw [hpo]; exact Or.inr (Or.inl ⟨hk0, h2, rfl, rfl, rfl⟩)) (by rw [hmc]; omega) (by rw [hms]; omega)
      · cases e0
    · rcases hv with ⟨-, e0, -⟩ | ⟨h2, e0, rfl, rfl⟩
      · cases e0
      · cases e0
        exact zx_out C (fun h hh => nomatch hh) (by rw [hpo]; exact Or.inr (Or.inr ⟨hk0, h2, rfl, rfl, rfl⟩)) (by rw [hmc]; omega) (by rw [hms]; omega)
/-- an expression as it is made -/
def eNew (k : Nat) (w : Int32) : eN := (k, w, fun _ => none, 0, 0, 32, 0, 0, 0, none)
theorem c_E_init (hB : 85 ≤ B) (hn2 : B + 2 * N + 1 < 1000000) (k : Nat) (w : Int32) : MetZ G l y_E_init b_E_init 3 none [] 1 1 4 [.ref (B + 2 * N), .ref (1000001 + k), .int w] (B + 2 * N + 1) (va_up (xOv xs xr xa xl xf (eOv B N E σ)) (B + 2 * N) (.inr (3, [.null, .int 0, .null, .int 0, .long 0, .int 0, .int 0, .int 0, .int 0, .null])))
    (fun o n' σ' => o = .returned none ∧ n' = B + 2 * N + 2 ∧ σ' = xOv xs xr xa xl xf (eOv B (N + 1) (va_up E N (eNew k w)) σ)) := by
  refine MetZ.of (by decide) (Nat.le_of_ble_eq_true rfl) (fun K hK hR hpo hmc hms C => ?_)
  refine z_aload_n C 1 d_E_init_0 rfl rfl ?_
  refine z_objinit C 4 d_E_init_1 rfl o_E_3 i_obj w_obj (by rw [hR]; decide) (by rw [hR]; decide) ?_
  refine z_aload_n C 5 d_E_init_4 rfl rfl ?_
  refine z_iconst C 6 d_E_init_5 rfl 4 (by decide) ?_
  refine z_anew C 9 (t := 5) 4 rfl cl_E_9 ao_exp d_E_init_6 rfl (by decide) (by decide) (by decide) hn2 (by rw [hR]; simp only [zRm]; omega) (by rw [hR]; simp only [zRm]; omega) ?_
  rw [va_comm _ _ _ (by omega)]
  refine z_putFS C 12 q_E_11 rfl d_E_init_9 rfl (by omega) (z_ltb rfl) rfl rfl ?_
  refine z_aload_n C 13 d_E_init_12 rfl rfl ?_
  refine z_iconst C 14 d_E_init_13 rfl 0 (by decide) ?_
  refine z_putS C 17 p_E_15 d_E_init_14 rfl (by omega) (z_ltb rfl) rfl rfl ?_
  refine z_aload_n C 18 d_E_init_17 rfl rfl ?_
  refine z_lconst C 19 d_E_init_18 rfl 0 (by decide) ?_
  refine z_putS C 22 p_E_19 d_E_init_19 rfl (by omega) (z_ltb rfl) rfl rfl ?_
  refine z_aload_n C 23 d_E_init_22 rfl rfl ?_
  refine z_bipush C 25 d_E_init_23 rfl 32 (by decide) ?_
  refine z_putS C 28 p_E_23 d_E_init_25 rfl (by omega) (z_ltb rfl) rfl rfl ?_
  refine z_aload_n C 29 d_E_init_28 rfl rfl ?_
  refine z_iconst C 30 d_E_init_29 rfl 0 (by decide) ?_
  refine z_putS C 33 p_E_27 d_E_init_30 rfl (by omega) (z_ltb rfl) rfl rfl ?_
  refine z_aload_n C 34 d_E_init_33 rfl rfl ?_
  refine z_iconst C 35 d_E_init_34 rfl 0 (by decide) ?_
  refine z_putS C 38 p_E_30 d_E_init_35 rfl (by omega) (z_ltb rfl) rfl rfl ?_
  refine z_aload_n C 39 d_E_init_38 rfl rfl ?_
  refine z_iconst C 40 d_E_init_39 rfl 0 (by decide) ?_
  refine z_putS C 43 p_E_33 d_E_init_40 rfl (by omega) (z_ltb rfl) rfl rfl ?_
  refine z_aload_n C 44 d_E_init_43 rfl rfl ?_
  refine z_null C 45 d_E_init_44 rfl ?_
  refine z_putS C 48 p_E_36 d_E_init_45 rfl (by omega) (z_ltb rfl) rfl rfl ?_
  refine z_aload_n C 49 d_E_init_48 rfl rfl ?_
  refine z_aload_n C 50 d_E_init_49 rfl rfl ?_
  refine z_putFS C 53 q_E_40 rfl d_E_init_50 rfl (by omega) (z_ltb rfl) rfl rfl ?_
  refine z_aload_n C 54 d_E_init_53 rfl rfl ?_
  refine z_iload_n C 55 d_E_init_54 rfl rfl ?_
  refine z_putFS C 58 q_E_44 rfl d_E_init_55 rfl (by omega) (z_ltb rfl) rfl rfl ?_
  exact z_vret C rfl d_E_init_58 (by rw [hpo]; exact ⟨rfl, rfl, by rw [← va_comm _ _ _ (by omega), xOv_up (by omega), xOv_up (by omega), ← eOv_new]; rfl⟩) (by rw [hmc]; omega) (by rw [hms]; omega)
theorem c_E_add {i j k : Nat} (hB : 85 ≤ B) (hn : n = B + 2 * N) (hi : i < N) (hj : j < N) (hk : (E i).2.2.2.1 = k) (hk4 : k < 4) : MetZ G l y_E_add b_E_add 2 none [] 0 0 0 [.ref (B + 2 * i), .ref (B + 2 * j)] n (xOv xs xr xa xl xf (eOv B N E σ))
    (fun o n' σ' => o = .returned none ∧ n' = n ∧ σ' = xOv xs xr xa xl xf (eOv B N (va_up E i (eAdd (E i) j)) σ)) := by
  have ho : xOv xs xr xa xl xf (eOv B N E σ) (B + 2 * i) = eCell B i (E i) := (xOv_at (by omega)).trans (eOv_obj hi)
  have hp : xOv xs xr xa xl xf (eOv B N E σ) (B + 2 * i + 1) = eParts B (E i) := (xOv_at (by omega)).trans (eOv_prt hi)
  have hj2 : xOv xs xr xa xl xf (eOv B N E σ) (B + 2 * j) = eCell B j (E j) := (xOv_at (by omega)).trans (eOv_obj hj)
  subst hk
  refine MetZ.of (by decide) (Nat.le_of_ble_eq_true rfl) (fun K hK hR hpo hmc hms C => ?_)
  refine z_aload_n C 1 d_E_add_0 rfl rfl ?_
  refine z_get C 4 f_E_15 d_E_add_1 rfl (by omega) ho rfl ?_
  refine z_iconst C 5 d_E_add_4 rfl 4 (by decide) ?_
  refine z_icmp_ge C 8 28 d_E_add_5 rfl (by decide) (fun h9 => absurd h9 (fun q => absurd ((nI_leI (a := 4) (by omega) (by omega)).mp q) (by omega))) (fun _ => ?_)
  refine z_aload_n C 9 d_E_add_8 rfl rfl ?_
  refine z_get C 12 f_E_11 d_E_add_9 rfl (by omega) ho rfl ?_
  refine z_aload_n C 13 d_E_add_12 rfl rfl ?_
  refine z_get C 16 f_E_15 d_E_add_13 rfl (by omega) ho rfl ?_
  refine z_aload_n C 17 d_E_add_16 rfl rfl ?_
  refine z_aast C 18 (t := 5) (E i).2.2.2.1 d_E_add_17 rfl (by omega) hp rfl (by omega) hj2 rfl rfl hk4 (by decide) ?_
  have e1 : va_up (xOv xs xr xa xl xf (eOv B N E σ)) (B + 2 * i + 1) (.inl (5, 4, .inr (.inr (.inr (.inr (va_up (fun k => ((E i).2.2.1 k).map (fun j => B + 2 * j)) (E i).2.2.2.1 (some (B + 2 * j)))))))) = xOv xs xr xa xl xf (eOv B N (va_up E i ((E i).1, (E i).2.1, va_up (E i).2.2.1 (E i).2.2.2.1 (some j), (E i).2.2.2)) σ) := by
    rw [xOv_up (by omega), ← eOv_upP (e' := ((E i).1, (E i).2.1, va_up (E i).2.2.1 (E i).2.2.2.1 (some j), (E i).2.2.2)) hi rfl]
    congr 2
    show _ = (.inl (5, 4, .inr (.inr (.inr (.inr (fun k => (va_up (E i).2.2.1 (E i).2.2.2.1 (some j) k).map (fun j => B + 2 * j)))))) : va_E)
    congr 7
    funext q
    by_cases w : q = (E i).2.2.2.1
    · subst w; rw [va_up_self, va_up_self]; rfl
    · rw [va_up_ne _ _ w, va_up_ne _ _ w]
  rw [e1]
  have ho2 : xOv xs xr xa xl xf (eOv B N (va_up E i ((E i).1, (E i).2.1, va_up (E i).2.2.1 (E i).2.2.2.1 (some j), (E i).2.2.2)) σ) (B + 2 * i) = eCell B i ((E i).1, (E i).2.1, va_up (E i).2.2.1 (E i).2.2.2.1 (some j), (E i).2.2.2) := (xOv_at (by omega)).trans ((eOv_obj hi).trans (by rw [va_up_self]))
  refine z_aload_n C 19 d_E_add_18 rfl rfl ?_
  refine z_dup C 20 d_E_add_19 rfl rfl ?_
  refine z_get C 23 f_E_15 d_E_add_20 rfl (by omega) ho2 rfl ?_
  refine z_iconst C 24 d_E_add_23 rfl 1 (by decide) ?_
  refine z_iadd C 25 d_E_add_24 rfl ?_
  refine z_put C 28 p_E_15 d_E_add_25 rfl (by omega) ho2 (z_ltb rfl) rfl rfl ?_
  exact z_vret C rfl d_E_add_28 (by rw [hpo]; exact ⟨rfl, rfl, by rw [xOv_up (by omega)]; show xOv _ _ _ _ _ (va_up _ _ (.inr (3, [.ref (1000001 + (E i).1), .int (E i).2.1, .ref (B + 2 * i + 1), .int (nI (E i).2.2.2.1 + 1), .long (E i).2.2.2.2.1, .int (E i).2.2.2.2.2.1, .int (E i).2.2.2.2.2.2.1, .int (E i).2.2.2.2.2.2.2.1, .int (E i).2.2.2.2.2.2.2.2.1, va_rf (E i).2.2.2.2.2.2.2.2.2]))) = _; rw [nI_1]; rw [show (.inr (3, [.ref (1000001 + (E i).1), .int (E i).2.1, .ref (B + 2 * i + 1), .int (nI ((E i).2.2.2.1 + 1)), .long (E i).2.2.2.2.1, .int (E i).2.2.2.2.2.1, .int (E i).2.2.2.2.2.2.1, .int (E i).2.2.2.2.2.2.2.1, .int (E i).2.2.2.2.2.2.2.2.1, va_rf (E i).2.2.2.2.2.2.2.2.2]) : va_E) = eCell B i (eAdd (E i) j) from rfl, eOv_upO hi (by rw [va_up_self]; rfl), va_up2]⟩) (by rw [hmc]; omega) (by rw [hms]; omega)
end EX
