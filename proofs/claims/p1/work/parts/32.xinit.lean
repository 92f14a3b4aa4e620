theorem aw_int : Cond.arrayClass FieldType.int ∈ zTb := zt1 89 (by decide +kernel) rfl
theorem aw_long : Cond.arrayClass FieldType.long ∈ zTb := zt1 88 (by decide +kernel) rfl
theorem aw_char : Cond.arrayClass FieldType.char ∈ zTb := zt1 43 (by decide +kernel) rfl
theorem aw_boolean : Cond.arrayClass FieldType.boolean ∈ zTb := zt1 90 (by decide +kernel) rfl
theorem ao_fun : Cond.arrayOver (FieldType.object "SoleArrays$Function") ∈ zTb := zt1 45 (by decide +kernel) rfl
theorem ao_row : Cond.arrayOver (FieldType.array FieldType.long) ∈ zTb := zt1 59 (by decide +kernel) rfl
theorem cl_O_25 : Cond.classLink "SoleArrays$Store" 25 "[[J" ∈ zTb := zt1 58 (by decide +kernel) rfl
theorem cl_U_25 : Cond.classLink "SoleArrays$Runner" 25 "[[J" ∈ zTb := zt1 91 (by decide +kernel) rfl
theorem cl_S_20 : Cond.classLink "SoleArrays" 20 "SoleArrays$Function" ∈ zTb := zt1 44 (by decide +kernel) rfl
theorem d_T_init_0 : decode b_T_init 0 = .ok (.aload_n 0, 1) := by decide +kernel
theorem d_T_init_1 : decode b_T_init 1 = .ok (.invokespecial 3, 3) := by decide +kernel
theorem d_T_init_4 : decode b_T_init 4 = .ok (.aload_n 0, 1) := by decide +kernel
theorem d_T_init_5 : decode b_T_init 5 = .ok (.iconst (-1), 1) := by decide +kernel
theorem d_T_init_6 : decode b_T_init 6 = .ok (.putfield 9, 3) := by decide +kernel
theorem d_T_init_9 : decode b_T_init 9 = .ok (.return_, 1) := by decide +kernel
theorem d_O_init_0 : decode b_O_init 0 = .ok (.aload_n 0, 1) := by decide +kernel
theorem d_O_init_1 : decode b_O_init 1 = .ok (.invokespecial 3, 3) := by decide +kernel
theorem d_O_init_4 : decode b_O_init 4 = .ok (.aload_n 0, 1) := by decide +kernel
theorem d_O_init_5 : decode b_O_init 5 = .ok (.bipush 8, 2) := by decide +kernel
theorem d_O_init_7 : decode b_O_init 7 = .ok (.newarray .int, 2) := by decide +kernel
theorem d_O_init_9 : decode b_O_init 9 = .ok (.putfield 9, 3) := by decide +kernel
theorem d_O_init_12 : decode b_O_init 12 = .ok (.aload_n 0, 1) := by decide +kernel
theorem d_O_init_13 : decode b_O_init 13 = .ok (.bipush 8, 2) := by decide +kernel
theorem d_O_init_15 : decode b_O_init 15 = .ok (.newarray .int, 2) := by decide +kernel
theorem d_O_init_17 : decode b_O_init 17 = .ok (.putfield 15, 3) := by decide +kernel
theorem d_O_init_20 : decode b_O_init 20 = .ok (.aload_n 0, 1) := by decide +kernel
theorem d_O_init_21 : decode b_O_init 21 = .ok (.iconst 0, 1) := by decide +kernel
theorem d_O_init_22 : decode b_O_init 22 = .ok (.putfield 18, 3) := by decide +kernel
theorem d_O_init_25 : decode b_O_init 25 = .ok (.aload_n 0, 1) := by decide +kernel
theorem d_O_init_26 : decode b_O_init 26 = .ok (.iconst 0, 1) := by decide +kernel
theorem d_O_init_27 : decode b_O_init 27 = .ok (.putfield 22, 3) := by decide +kernel
theorem d_O_init_30 : decode b_O_init 30 = .ok (.aload_n 0, 1) := by decide +kernel
theorem d_O_init_31 : decode b_O_init 31 = .ok (.bipush 8, 2) := by decide +kernel
theorem d_O_init_33 : decode b_O_init 33 = .ok (.bipush 40, 2) := by decide +kernel
theorem d_O_init_35 : decode b_O_init 35 = .ok (.multianewarray 25 2, 4) := by decide +kernel
theorem d_O_init_39 : decode b_O_init 39 = .ok (.putfield 27, 3) := by decide +kernel
theorem d_O_init_42 : decode b_O_init 42 = .ok (.aload_n 0, 1) := by decide +kernel
theorem d_O_init_43 : decode b_O_init 43 = .ok (.bipush 8, 2) := by decide +kernel
theorem d_O_init_45 : decode b_O_init 45 = .ok (.newarray .boolean, 2) := by decide +kernel
theorem d_O_init_47 : decode b_O_init 47 = .ok (.putfield 30, 3) := by decide +kernel
theorem d_O_init_50 : decode b_O_init 50 = .ok (.aload_n 0, 1) := by decide +kernel
theorem d_O_init_51 : decode b_O_init 51 = .ok (.iconst 0, 1) := by decide +kernel
theorem d_O_init_52 : decode b_O_init 52 = .ok (.putfield 34, 3) := by decide +kernel
theorem d_O_init_55 : decode b_O_init 55 = .ok (.return_, 1) := by decide +kernel
theorem d_U_init_0 : decode b_U_init 0 = .ok (.aload_n 0, 1) := by decide +kernel
theorem d_U_init_1 : decode b_U_init 1 = .ok (.invokespecial 3, 3) := by decide +kernel
theorem d_U_init_4 : decode b_U_init 4 = .ok (.aload_n 0, 1) := by decide +kernel
theorem d_U_init_5 : decode b_U_init 5 = .ok (.new 9, 3) := by decide +kernel
theorem d_U_init_8 : decode b_U_init 8 = .ok (.dup, 1) := by decide +kernel
theorem d_U_init_9 : decode b_U_init 9 = .ok (.invokespecial 11, 3) := by decide +kernel
theorem d_U_init_12 : decode b_U_init 12 = .ok (.putfield 12, 3) := by decide +kernel
theorem d_U_init_15 : decode b_U_init 15 = .ok (.aload_n 0, 1) := by decide +kernel
theorem d_U_init_16 : decode b_U_init 16 = .ok (.iconst 0, 1) := by decide +kernel
theorem d_U_init_17 : decode b_U_init 17 = .ok (.putfield 18, 3) := by decide +kernel
theorem d_U_init_20 : decode b_U_init 20 = .ok (.aload_n 0, 1) := by decide +kernel
theorem d_U_init_21 : decode b_U_init 21 = .ok (.iconst 0, 1) := by decide +kernel
theorem d_U_init_22 : decode b_U_init 22 = .ok (.putfield 22, 3) := by decide +kernel
theorem d_U_init_25 : decode b_U_init 25 = .ok (.aload_n 0, 1) := by decide +kernel
theorem d_U_init_26 : decode b_U_init 26 = .ok (.bipush 65, 2) := by decide +kernel
theorem d_U_init_28 : decode b_U_init 28 = .ok (.bipush 20, 2) := by decide +kernel
theorem d_U_init_30 : decode b_U_init 30 = .ok (.multianewarray 25 2, 4) := by decide +kernel
theorem d_U_init_34 : decode b_U_init 34 = .ok (.putfield 27, 3) := by decide +kernel
theorem d_U_init_37 : decode b_U_init 37 = .ok (.aload_n 0, 1) := by decide +kernel
theorem d_U_init_38 : decode b_U_init 38 = .ok (.iconst 0, 1) := by decide +kernel
theorem d_U_init_39 : decode b_U_init 39 = .ok (.putfield 30, 3) := by decide +kernel
theorem d_U_init_42 : decode b_U_init 42 = .ok (.return_, 1) := by decide +kernel
theorem d_S_init_0 : decode b_S_init 0 = .ok (.aload_n 0, 1) := by decide +kernel
theorem d_S_init_1 : decode b_S_init 1 = .ok (.invokespecial 1, 3) := by decide +kernel
theorem d_S_init_4 : decode b_S_init 4 = .ok (.aload_n 0, 1) := by decide +kernel
theorem d_S_init_5 : decode b_S_init 5 = .ok (.sipush 150, 3) := by decide +kernel
theorem d_S_init_8 : decode b_S_init 8 = .ok (.newarray .char, 2) := by decide +kernel
theorem d_S_init_10 : decode b_S_init 10 = .ok (.putfield 9, 3) := by decide +kernel
theorem d_S_init_13 : decode b_S_init 13 = .ok (.aload_n 0, 1) := by decide +kernel
theorem d_S_init_14 : decode b_S_init 14 = .ok (.new 13, 3) := by decide +kernel
theorem d_S_init_17 : decode b_S_init 17 = .ok (.dup, 1) := by decide +kernel
theorem d_S_init_18 : decode b_S_init 18 = .ok (.invokespecial 15, 3) := by decide +kernel
theorem d_S_init_21 : decode b_S_init 21 = .ok (.putfield 16, 3) := by decide +kernel
theorem d_S_init_24 : decode b_S_init 24 = .ok (.aload_n 0, 1) := by decide +kernel
theorem d_S_init_25 : decode b_S_init 25 = .ok (.bipush 8, 2) := by decide +kernel
theorem d_S_init_27 : decode b_S_init 27 = .ok (.anewarray 20, 3) := by decide +kernel
theorem d_S_init_30 : decode b_S_init 30 = .ok (.putfield 22, 3) := by decide +kernel
theorem d_S_init_33 : decode b_S_init 33 = .ok (.aload_n 0, 1) := by decide +kernel
theorem d_S_init_34 : decode b_S_init 34 = .ok (.iconst 4, 1) := by decide +kernel
theorem d_S_init_35 : decode b_S_init 35 = .ok (.newarray .long, 2) := by decide +kernel
theorem d_S_init_37 : decode b_S_init 37 = .ok (.putfield 26, 3) := by decide +kernel
theorem d_S_init_40 : decode b_S_init 40 = .ok (.aload_n 0, 1) := by decide +kernel
theorem d_S_init_41 : decode b_S_init 41 = .ok (.new 30, 3) := by decide +kernel
theorem d_S_init_44 : decode b_S_init 44 = .ok (.dup, 1) := by decide +kernel
theorem d_S_init_45 : decode b_S_init 45 = .ok (.invokespecial 32, 3) := by decide +kernel
theorem d_S_init_48 : decode b_S_init 48 = .ok (.putfield 33, 3) := by decide +kernel
theorem d_S_init_51 : decode b_S_init 51 = .ok (.aload_n 0, 1) := by decide +kernel
theorem d_S_init_52 : decode b_S_init 52 = .ok (.iconst 0, 1) := by decide +kernel
theorem d_S_init_53 : decode b_S_init 53 = .ok (.putfield 37, 3) := by decide +kernel
theorem d_S_init_56 : decode b_S_init 56 = .ok (.aload_n 0, 1) := by decide +kernel
theorem d_S_init_57 : decode b_S_init 57 = .ok (.iconst 0, 1) := by decide +kernel
theorem d_S_init_58 : decode b_S_init 58 = .ok (.putfield 41, 3) := by decide +kernel
theorem d_S_init_61 : decode b_S_init 61 = .ok (.aload_n 0, 1) := by decide +kernel
theorem d_S_init_62 : decode b_S_init 62 = .ok (.iconst 0, 1) := by decide +kernel
theorem d_S_init_63 : decode b_S_init 63 = .ok (.putfield 44, 3) := by decide +kernel
theorem d_S_init_66 : decode b_S_init 66 = .ok (.aload_n 0, 1) := by decide +kernel
theorem d_S_init_67 : decode b_S_init 67 = .ok (.iconst (-1), 1) := by decide +kernel
theorem d_S_init_68 : decode b_S_init 68 = .ok (.putfield 47, 3) := by decide +kernel
theorem d_S_init_71 : decode b_S_init 71 = .ok (.aload_n 0, 1) := by decide +kernel
theorem d_S_init_72 : decode b_S_init 72 = .ok (.lconst 0, 1) := by decide +kernel
theorem d_S_init_73 : decode b_S_init 73 = .ok (.putfield 50, 3) := by decide +kernel
theorem d_S_init_76 : decode b_S_init 76 = .ok (.return_, 1) := by decide +kernel
theorem z_ltb {a b : Nat} (h : Nat.blt a b = true) : a < b := Nat.le_of_ble_eq_true h
theorem z_rng {N : Nat} {f g : zS} (h : (List.range N).map f = (List.range N).map g) {i : Nat} (hi : i < N) : f i = g i := by
  have h1 := congrArg (fun l => l[i]?) h
  simp only [List.getElem?_map, List.getElem?_range hi, Option.map_some] at h1
  exact Option.some.inj h1
theorem z_rng2 (a N : Nat) {f g : zS} (h : (List.range N).map (fun j => f (a + j)) = (List.range N).map (fun j => g (a + j))) {i : Nat} (h1 : a ≤ i) (h2 : i < a + N) : f i = g i := by
  have h3 := z_rng (f := fun j => f (a + j)) (g := fun j => g (a + j)) h (i := i - a) (by omega)
  have h3 : f (a + (i - a)) = g (a + (i - a)) := h3
  rw [show a + (i - a) = i by omega] at h3
  exact h3
/-- a new object's ints -/
def xs0 : mS := fun k => if k = 3 then -1 else if k = 4 then -1 else 0
def xI (σ : zS) : zS := xOv xs0 0 (fun _ _ => 0) (fun _ _ => 0) (fun _ => none) σ
section XIN
variable {G : zG} {l : Launch} {n : Nat} {σ : zS}
theorem c_T_init {i : Nat} (hi : i < n) (hσ : σ i = .inr (1, [.int 0])) : MetZ G l y_T_init b_T_init 1 none [] 1 0 0 [.ref i] n σ (fun o n' σ' => o = .returned none ∧ n' = n ∧ σ' = va_up σ i (.inr (1, [.int (-1)]))) := by
  refine MetZ.of (by decide) (Nat.le_of_ble_eq_true rfl) (fun K hK hR hpo hmc hms C => ?_)
  refine z_aload_n C 1 d_T_init_0 rfl rfl ?_
  refine z_objinit C 4 d_T_init_1 rfl o_T_3 i_obj w_obj (by rw [hR]; decide) (by rw [hR]; decide) ?_
  refine z_aload_n C 5 d_T_init_4 rfl rfl ?_
  refine z_iconst C 6 d_T_init_5 rfl (-1) (by decide) ?_
  refine z_put C 9 p_T_9 d_T_init_6 rfl hi hσ (by decide) rfl rfl ?_
  exact z_vret C rfl d_T_init_9 (by rw [hpo]; exact ⟨rfl, rfl, rfl⟩) (by rw [hmc]; omega) (by rw [hms]; omega)
theorem c_O_init (hσ : σ 6 = .inr (6, [.null, .null, .int 0, .int 0, .null, .null, .int 0])) : MetZ G l y_O_init b_O_init 1 none [] 1 12 352 [.ref 6] 7 σ (fun o n' σ' => o = .returned none ∧ n' = 19 ∧ (∀ i, i < 6 → σ' i = σ i) ∧ ∀ i, 6 ≤ i → i < 19 → σ' i = xI σ i) := by
  refine MetZ.of (by decide) (Nat.le_of_ble_eq_true rfl) (fun K hK hR hpo hmc hms C => ?_)
  refine Z.same (τ := va_up σ 6 (.inr (6, [.null, .null, .int 0, .int 0, .null, .null, .int 0]))) (fun i _ => by by_cases h : i = 6 <;> simp [va_up, h, hσ]) ?_
  refine z_aload_n C 1 d_O_init_0 rfl rfl ?_
  refine z_objinit C 4 d_O_init_1 rfl o_O_3 i_obj w_obj (by rw [hR]; decide) (by rw [hR]; decide) ?_
  refine z_aload_n C 5 d_O_init_4 rfl rfl ?_
  refine z_bipush C 7 d_O_init_5 rfl 8 (by decide) ?_
  refine z_newa C 9 0 8 (a := (8, .inl (fun _ => 0))) rfl rfl aw_int (fun _ => rfl) (fun h => h) d_O_init_7 rfl (by decide) (by decide) (by decide) (by omega) (by rw [hR]; simp only [zRm]; omega) (by rw [hR]; simp only [zRm]; omega) ?_
  refine z_putF C 12 q_O_9 rfl d_O_init_9 rfl (by omega) rfl (z_ltb rfl) (rfl) rfl ?_
  refine z_aload_n C 13 d_O_init_12 rfl rfl ?_
  refine z_bipush C 15 d_O_init_13 rfl 8 (by decide) ?_
  refine z_newa C 17 0 8 (a := (8, .inl (fun _ => 0))) rfl rfl aw_int (fun _ => rfl) (fun h => h) d_O_init_15 rfl (by decide) (by decide) (by decide) (by omega) (by rw [hR]; simp only [zRm]; omega) (by rw [hR]; simp only [zRm]; omega) ?_
  refine z_putF C 20 q_O_15 rfl d_O_init_17 rfl (by omega) rfl (z_ltb rfl) (rfl) rfl ?_
  refine z_aload_n C 21 d_O_init_20 rfl rfl ?_
  refine z_iconst C 22 d_O_init_21 rfl 0 (by decide) ?_
  refine z_put C 25 p_O_18 d_O_init_22 rfl (by omega) rfl (z_ltb rfl) (rfl) rfl ?_
  refine z_aload_n C 26 d_O_init_25 rfl rfl ?_
  refine z_iconst C 27 d_O_init_26 rfl 0 (by decide) ?_
  refine z_put C 30 p_O_22 d_O_init_27 rfl (by omega) rfl (z_ltb rfl) (rfl) rfl ?_
  refine z_aload_n C 31 d_O_init_30 rfl rfl ?_
  refine z_bipush C 33 d_O_init_31 rfl 8 (by decide) ?_
  refine z_bipush C 35 d_O_init_33 rfl 40 (by decide) ?_
  refine z_mna C 39 8 40 d_O_init_35 rfl cl_O_25 ao_row aw_long (by decide) (by decide) (by decide) (by decide) (by decide) (by rw [hR]; decide) (by rw [hR]; decide) ?_
  refine z_putF C 42 q_O_27 rfl d_O_init_39 rfl (by omega) rfl (z_ltb rfl) (rfl) rfl ?_
  refine z_aload_n C 43 d_O_init_42 rfl rfl ?_
  refine z_bipush C 45 d_O_init_43 rfl 8 (by decide) ?_
  refine z_newa C 47 3 8 (a := (8, .inl (fun _ => 0))) rfl rfl aw_boolean (fun _ => rfl) (fun h => h) d_O_init_45 rfl (by decide) (by decide) (by decide) (by omega) (by rw [hR]; simp only [zRm]; omega) (by rw [hR]; simp only [zRm]; omega) ?_
  refine z_putF C 50 q_O_30 rfl d_O_init_47 rfl (by omega) rfl (z_ltb rfl) (rfl) rfl ?_
  refine z_aload_n C 51 d_O_init_50 rfl rfl ?_
  refine z_iconst C 52 d_O_init_51 rfl 0 (by decide) ?_
  refine z_put C 55 p_O_34 d_O_init_52 rfl (by omega) rfl (z_ltb rfl) (rfl) rfl ?_
  exact z_vret C rfl d_O_init_55 (by rw [hpo]; exact ⟨rfl, rfl, fun i hi => by simp only [va_up, zrow]; repeat (first | rw [if_neg (by omega)] | rw [if_pos (by omega)]), fun i h6 hi => z_rng2 6 13 (by rfl) h6 hi⟩) (by rw [hmc]; omega) (by rw [hms]; omega)
theorem c_U_init (hσ : σ 5 = .inr (7, [.null, .int 0, .int 0, .null, .int 0])) : MetZ G l y_U_init b_U_init 1 none [] 2 79 1724 [.ref 5] 6 σ (fun o n' σ' => o = .returned none ∧ n' = 85 ∧ (∀ i, i < 5 → σ' i = σ i) ∧ ∀ i, 5 ≤ i → i < 85 → σ' i = xI σ i) := by
  refine MetZ.of (by decide) (Nat.le_of_ble_eq_true rfl) (fun K hK hR hpo hmc hms C => ?_)
  refine Z.same (τ := va_up σ 5 (.inr (7, [.null, .int 0, .int 0, .null, .int 0]))) (fun i _ => by by_cases h : i = 5 <;> simp [va_up, h, hσ]) ?_
  refine z_aload_n C 1 d_U_init_0 rfl rfl ?_
  refine z_objinit C 4 d_U_init_1 rfl o_U_3 i_obj w_obj (by rw [hR]; decide) (by rw [hR]; decide) ?_
  refine z_aload_n C 5 d_U_init_4 rfl rfl ?_
  refine z_new C 8 n_U_9 d_U_init_5 rfl (by omega) (by rw [hR]; simp only [zRm]; omega) (by rw [hR]; simp only [zRm]; omega) ?_
  refine z_dup C 9 d_U_init_8 rfl rfl ?_
  refine z_call C 12 (c_O_init (σ := va_up (va_up σ 5 (.inr (7, [.null, .int 0, .int 0, .null, .int 0]))) 6 (.inr (6, [.null, .null, .int 0, .int 0, .null, .null, .int 0]))) rfl) w_O_init ini_O d_U_init_9 rfl (z_goIN (As := []) C l_U_11 w_O_init d_U_init_9 rfl) (Nat.le_of_ble_eq_true rfl) (by rw [hR]; simp only [zRm]; omega) (by rw [hR]; simp only [zRm]; omega) (by rw [hR]; simp only [zRm]; omega) (by rw [hR]; simp only [zRm]; omega) (fun v n' σ' hv => ?_) (fun x n' σ' hv => ?_)
  · obtain ⟨hv, rfl, h1, h2⟩ := hv
    cases hv
    refine Z.same (τ := fun i => if i < 5 then σ i else if i < 6 then .inr (7, [.null, .int 0, .int 0, .null, .int 0]) else xI σ i) (fun i hi => ?_) ?_
    · by_cases a1 : i < 6
      · rw [h1 i a1]
        by_cases a2 : i < 5
        · rw [if_pos a2, va_up_ne _ _ (by omega), va_up_ne _ _ (by omega)]
        · obtain rfl : i = 5 := by omega
          rfl
      · rw [h2 i (by omega) hi, if_neg (by omega), if_neg a1]
        unfold xI xOv
        rw [if_neg (show ¬ 85 ≤ i by omega), if_neg (show ¬ 85 ≤ i by omega)]
    refine z_putF C 15 q_U_12 rfl d_U_init_12 rfl (by omega) rfl (z_ltb rfl) (rfl) rfl ?_
    refine z_aload_n C 16 d_U_init_15 rfl rfl ?_
    refine z_iconst C 17 d_U_init_16 rfl 0 (by decide) ?_
    refine z_put C 20 p_U_18 d_U_init_17 rfl (by omega) rfl (z_ltb rfl) (rfl) rfl ?_
    refine z_aload_n C 21 d_U_init_20 rfl rfl ?_
    refine z_iconst C 22 d_U_init_21 rfl 0 (by decide) ?_
    refine z_put C 25 p_U_22 d_U_init_22 rfl (by omega) rfl (z_ltb rfl) (rfl) rfl ?_
    refine z_aload_n C 26 d_U_init_25 rfl rfl ?_
    refine z_bipush C 28 d_U_init_26 rfl 65 (by decide) ?_
    refine z_bipush C 30 d_U_init_28 rfl 20 (by decide) ?_
    refine z_mna C 34 65 20 d_U_init_30 rfl cl_U_25 ao_row aw_long (by decide) (by decide) (by decide) (by decide) (by decide) (by rw [hR]; decide) (by rw [hR]; decide) ?_
    refine z_putF C 37 q_U_27 rfl d_U_init_34 rfl (by omega) rfl (z_ltb rfl) (rfl) rfl ?_
    refine z_aload_n C 38 d_U_init_37 rfl rfl ?_
    refine z_iconst C 39 d_U_init_38 rfl 0 (by decide) ?_
    refine z_put C 42 p_U_30 d_U_init_39 rfl (by omega) rfl (z_ltb rfl) (rfl) rfl ?_
    exact z_vret C rfl d_U_init_42 (by rw [hpo]; exact ⟨rfl, rfl, fun i hi => by simp only [va_up, zrow]; repeat (first | rw [if_neg (by omega)] | rw [if_pos (by omega)]), fun i h6 hi => z_rng2 5 80 (by rfl) h6 hi⟩) (by rw [hmc]; omega) (by rw [hms]; omega)
  · exact absurd hv.1 (by simp)
theorem c_S_init (hσ : σ 0 = .inr (0, [.null, .null, .null, .null, .null, .int 0, .int 0, .int 0, .int 0, .long 0])) : MetZ G l y_S_init b_S_init 1 none [] 3 84 1892 [.ref 0] 1 σ (fun o n' σ' => o = .returned none ∧ n' = 85 ∧ ∀ i, i < 85 → σ' i = xI σ i) := by
  refine MetZ.of (by decide) (Nat.le_of_ble_eq_true rfl) (fun K hK hR hpo hmc hms C => ?_)
  refine Z.same (τ := va_up σ 0 (.inr (0, [.null, .null, .null, .null, .null, .int 0, .int 0, .int 0, .int 0, .long 0]))) (fun i _ => by by_cases h : i = 0 <;> simp [va_up, h, hσ]) ?_
  refine z_aload_n C 1 d_S_init_0 rfl rfl ?_
  refine z_objinit C 4 d_S_init_1 rfl o_S_1 i_obj w_obj (by rw [hR]; decide) (by rw [hR]; decide) ?_
  refine z_aload_n C 5 d_S_init_4 rfl rfl ?_
  refine z_sipush C 8 d_S_init_5 rfl 150 (by decide) ?_
  refine z_newa C 10 2 150 (a := (150, .inl (fun _ => 0))) rfl rfl aw_char (fun _ => rfl) (fun h => h) d_S_init_8 rfl (by decide) (by decide) (by decide) (by omega) (by rw [hR]; simp only [zRm]; omega) (by rw [hR]; simp only [zRm]; omega) ?_
  refine z_putF C 13 q_S_9 rfl d_S_init_10 rfl (by omega) rfl (z_ltb rfl) (rfl) rfl ?_
  refine z_aload_n C 14 d_S_init_13 rfl rfl ?_
  refine z_new C 17 n_S_13 d_S_init_14 rfl (by omega) (by rw [hR]; simp only [zRm]; omega) (by rw [hR]; simp only [zRm]; omega) ?_
  refine z_dup C 18 d_S_init_17 rfl rfl ?_
  refine z_call C 21 (c_T_init (i := 2) (by decide) rfl) w_T_init ini_T d_S_init_18 rfl (z_goIN (As := []) C l_S_15 w_T_init d_S_init_18 rfl) (Nat.le_of_ble_eq_true rfl) (by rw [hR]; simp only [zRm]; omega) (by rw [hR]; simp only [zRm]; omega) (by rw [hR]; simp only [zRm]; omega) (by rw [hR]; simp only [zRm]; omega) (fun v n' σ' hv => ?_) (fun x n' σ' hv => ?_)
  · obtain ⟨hv, rfl, rfl⟩ := hv
    cases hv
    refine z_putF C 24 q_S_16 rfl d_S_init_21 rfl (by omega) rfl (z_ltb rfl) (rfl) rfl ?_
    refine z_aload_n C 25 d_S_init_24 rfl rfl ?_
    refine z_bipush C 27 d_S_init_25 rfl 8 (by decide) ?_
    refine z_anew C 30 (t := 4) 8 rfl cl_S_20 ao_fun d_S_init_27 rfl (by decide) (by decide) (by decide) (by decide) (by rw [hR]; decide) (by rw [hR]; decide) ?_
    refine z_putF C 33 q_S_22 rfl d_S_init_30 rfl (by omega) rfl (z_ltb rfl) (rfl) rfl ?_
    refine z_aload_n C 34 d_S_init_33 rfl rfl ?_
    refine z_iconst C 35 d_S_init_34 rfl 4 (by decide) ?_
    refine z_newa C 37 1 4 (a := (4, .inr (.inl (fun _ => 0)))) rfl rfl aw_long (fun _ => rfl) (fun h => h) d_S_init_35 rfl (by decide) (by decide) (by decide) (by omega) (by rw [hR]; simp only [zRm]; omega) (by rw [hR]; simp only [zRm]; omega) ?_
    refine z_putF C 40 q_S_26 rfl d_S_init_37 rfl (by omega) rfl (z_ltb rfl) (rfl) rfl ?_
    refine z_aload_n C 41 d_S_init_40 rfl rfl ?_
    refine z_new C 44 n_S_30 d_S_init_41 rfl (by omega) (by rw [hR]; simp only [zRm]; omega) (by rw [hR]; simp only [zRm]; omega) ?_
    refine z_dup C 45 d_S_init_44 rfl rfl ?_
    refine z_call C 48 (c_U_init rfl) w_U_init ini_U d_S_init_45 rfl (z_goIN (As := []) C l_S_32 w_U_init d_S_init_45 rfl) (Nat.le_of_ble_eq_true rfl) (by rw [hR]; simp only [zRm]; omega) (by rw [hR]; simp only [zRm]; omega) (by rw [hR]; simp only [zRm]; omega) (by rw [hR]; simp only [zRm]; omega) (fun v n' σ' hv => ?_) (fun x n' σ' hv => ?_)
    · obtain ⟨hv, rfl, h1, h2⟩ := hv
      cases hv
      refine Z.same (τ := fun i => if i < 1 then .inr (0, [.ref 1, .ref 2, .ref 3, .ref 4, .null, .int 0, .int 0, .int 0, .int 0, .long 0]) else xI σ i) (fun i hi => ?_) ?_
      · by_cases a1 : i < 5
        · rw [h1 i a1]
          exact z_rng2 0 5 (g := fun i => if i < 1 then .inr (0, [.ref 1, .ref 2, .ref 3, .ref 4, .null, .int 0, .int 0, .int 0, .int 0, .long 0]) else xI σ i) (by rfl) (Nat.zero_le _) a1
        · rw [h2 i (by omega) hi, if_neg (by omega)]
          unfold xI xOv
          rw [if_neg (show ¬ 85 ≤ i by omega), if_neg (show ¬ 85 ≤ i by omega)]
      refine z_putF C 51 q_S_33 rfl d_S_init_48 rfl (by omega) rfl (z_ltb rfl) (rfl) rfl ?_
      refine z_aload_n C 52 d_S_init_51 rfl rfl ?_
      refine z_iconst C 53 d_S_init_52 rfl 0 (by decide) ?_
      refine z_put C 56 p_S_37 d_S_init_53 rfl (by omega) rfl (z_ltb rfl) (rfl) rfl ?_
      refine z_aload_n C 57 d_S_init_56 rfl rfl ?_
      refine z_iconst C 58 d_S_init_57 rfl 0 (by decide) ?_
      refine z_put C 61 p_S_41 d_S_init_58 rfl (by omega) rfl (z_ltb rfl) (rfl) rfl ?_
      refine z_aload_n C 62 d_S_init_61 rfl rfl ?_
      refine z_iconst C 63 d_S_init_62 rfl 0 (by decide) ?_
      refine z_put C 66 p_S_44 d_S_init_63 rfl (by omega) rfl (z_ltb rfl) (rfl) rfl ?_
      refine z_aload_n C 67 d_S_init_66 rfl rfl ?_
      refine z_iconst C 68 d_S_init_67 rfl (-1) (by decide) ?_
      refine z_put C 71 p_S_47 d_S_init_68 rfl (by omega) rfl (z_ltb rfl) (rfl) rfl ?_
      refine z_aload_n C 72 d_S_init_71 rfl rfl ?_
      refine z_lconst C 73 d_S_init_72 rfl 0 (by decide) ?_
      refine z_put C 76 p_S_50 d_S_init_73 rfl (by omega) rfl (z_ltb rfl) (rfl) rfl ?_
      exact z_vret C rfl d_S_init_76 (by rw [hpo]; exact ⟨rfl, rfl, fun i hi => z_rng2 0 85 (by rfl) (Nat.zero_le _) (by omega)⟩) (by rw [hmc]; omega) (by rw [hms]; omega)
    · exact absurd hv.1 (by simp)
  · exact absurd hv.1 (by simp)
end XIN
