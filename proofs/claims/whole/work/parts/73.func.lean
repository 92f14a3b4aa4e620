/-! a function's cells: F itself, its variables F + 1, their places F + 2, types F + 3 -/
def gF (F : Nat) (f : Int32) (c : Nat) (res : Int32) (bd : Option Nat) : va_E := .inr (2, [.int f, .ref (F + 1), .ref (F + 2), .ref (F + 3), .int (nI c), .int res, va_rf bd])
def gOv (F : Nat) (c : va_E) (V P Y : mS) (σ : zS) : zS := fun i => if i = F then c else if i = F + 1 then .inl (0, 4, .inl V) else if i = F + 2 then .inl (0, 4, .inl P) else if i = F + 3 then .inl (0, 4, .inl Y) else σ i
section GOV
variable {F i : Nat} {c x : va_E} {V P Y : mS} {σ : zS}
theorem gOv_0 : gOv F c V P Y σ F = c := if_pos rfl
theorem gOv_1 : gOv F c V P Y σ (F + 1) = .inl (0, 4, .inl V) := by unfold gOv; rw [if_neg (by omega), if_pos rfl]
theorem gOv_2 : gOv F c V P Y σ (F + 2) = .inl (0, 4, .inl P) := by unfold gOv; rw [if_neg (by omega), if_neg (by omega), if_pos rfl]
theorem gOv_3 : gOv F c V P Y σ (F + 3) = .inl (0, 4, .inl Y) := by unfold gOv; rw [if_neg (by omega), if_neg (by omega), if_neg (by omega), if_pos rfl]
theorem gOv_out (h : i < F ∨ F + 4 ≤ i) : gOv F c V P Y σ i = σ i := by unfold gOv; rw [if_neg (by omega), if_neg (by omega), if_neg (by omega), if_neg (by omega)]
theorem gOv_up0 : va_up (gOv F c V P Y σ) F x = gOv F x V P Y σ := by
  funext j
  by_cases q : j = F
  · subst q; rw [va_up_self, gOv_0]
  · rw [va_up_ne _ _ q]; unfold gOv; rw [if_neg q, if_neg q]
theorem gOv_up1 {W : mS} : va_up (gOv F c V P Y σ) (F + 1) (.inl (0, 4, .inl W)) = gOv F c W P Y σ := by
  funext j
  by_cases q : j = F + 1
  · subst q; rw [va_up_self, gOv_1]
  · rw [va_up_ne _ _ q]; unfold gOv; rw [if_neg q, if_neg q]
theorem gOv_up2 {W : mS} : va_up (gOv F c V P Y σ) (F + 2) (.inl (0, 4, .inl W)) = gOv F c V W Y σ := by
  funext j
  by_cases q : j = F + 2
  · subst q; rw [va_up_self, gOv_2]
  · rw [va_up_ne _ _ q]; unfold gOv; rw [if_neg q, if_neg q]
theorem gOv_up3 {W : mS} : va_up (gOv F c V P Y σ) (F + 3) (.inl (0, 4, .inl W)) = gOv F c V P W σ := by
  funext j
  by_cases q : j = F + 3
  · subst q; rw [va_up_self, gOv_3]
  · rw [va_up_ne _ _ q]; unfold gOv; rw [if_neg q, if_neg q]
theorem gOv_low (h : i < F ∨ F + 4 ≤ i) : va_up (gOv F c V P Y σ) i x = gOv F c V P Y (va_up σ i x) := by
  funext j
  by_cases q : j = i
  · subst q; rw [va_up_self, gOv_out h, va_up_self]
  · rw [va_up_ne _ _ q]; unfold gOv; rw [va_up_ne _ _ q]
theorem gOv_mk : va_up (va_up (va_up (va_up σ (F + 1) (.inl (0, 4, .inl V))) (F + 2) (.inl (0, 4, .inl P))) (F + 3) (.inl (0, 4, .inl Y))) F c = gOv F c V P Y σ := by
  funext j
  unfold gOv
  by_cases q0 : j = F
  · subst q0; rw [va_up_self, if_pos rfl]
  · rw [va_up_ne _ _ q0, if_neg q0]
    by_cases q3 : j = F + 3
    · subst q3; rw [va_up_self, if_neg (by omega), if_neg (by omega), if_pos rfl]
    · rw [va_up_ne _ _ q3]
      by_cases q2 : j = F + 2
      · subst q2; rw [va_up_self, if_neg (by omega), if_pos rfl]
      · rw [va_up_ne _ _ q2]
        by_cases q1 : j = F + 1
        · subst q1; rw [va_up_self, if_pos rfl]
        · rw [va_up_ne _ _ q1, if_neg q1, if_neg q2, if_neg q3]
theorem eOv_z {B : Nat} {E : Nat → eN} : eOv B 0 E σ = σ := by
  funext q
  unfold eOv
  by_cases h : q < B
  · rw [if_pos h]
  · rw [if_neg h, if_pos (by omega)]
end GOV
theorem d_F_init_0 : decode b_F_init 0 = .ok (.aload_n 0, 1) := by decide +kernel
theorem d_F_init_1 : decode b_F_init 1 = .ok (.invokespecial 3, 3) := by decide +kernel
theorem d_F_init_4 : decode b_F_init 4 = .ok (.aload_n 0, 1) := by decide +kernel
theorem d_F_init_5 : decode b_F_init 5 = .ok (.iconst 4, 1) := by decide +kernel
theorem d_F_init_6 : decode b_F_init 6 = .ok (.newarray .int, 2) := by decide +kernel
theorem d_F_init_8 : decode b_F_init 8 = .ok (.putfield 9, 3) := by decide +kernel
theorem d_F_init_11 : decode b_F_init 11 = .ok (.aload_n 0, 1) := by decide +kernel
theorem d_F_init_12 : decode b_F_init 12 = .ok (.iconst 4, 1) := by decide +kernel
theorem d_F_init_13 : decode b_F_init 13 = .ok (.newarray .int, 2) := by decide +kernel
theorem d_F_init_15 : decode b_F_init 15 = .ok (.putfield 15, 3) := by decide +kernel
theorem d_F_init_18 : decode b_F_init 18 = .ok (.aload_n 0, 1) := by decide +kernel
theorem d_F_init_19 : decode b_F_init 19 = .ok (.iconst 4, 1) := by decide +kernel
theorem d_F_init_20 : decode b_F_init 20 = .ok (.newarray .int, 2) := by decide +kernel
theorem d_F_init_22 : decode b_F_init 22 = .ok (.putfield 18, 3) := by decide +kernel
theorem d_F_init_25 : decode b_F_init 25 = .ok (.aload_n 0, 1) := by decide +kernel
theorem d_F_init_26 : decode b_F_init 26 = .ok (.iconst 0, 1) := by decide +kernel
theorem d_F_init_27 : decode b_F_init 27 = .ok (.putfield 21, 3) := by decide +kernel
theorem d_F_init_30 : decode b_F_init 30 = .ok (.aload_n 0, 1) := by decide +kernel
theorem d_F_init_31 : decode b_F_init 31 = .ok (.iconst 0, 1) := by decide +kernel
theorem d_F_init_32 : decode b_F_init 32 = .ok (.putfield 25, 3) := by decide +kernel
theorem d_F_init_35 : decode b_F_init 35 = .ok (.aload_n 0, 1) := by decide +kernel
theorem d_F_init_36 : decode b_F_init 36 = .ok (.aconst_null, 1) := by decide +kernel
theorem d_F_init_37 : decode b_F_init 37 = .ok (.putfield 28, 3) := by decide +kernel
theorem d_F_init_40 : decode b_F_init 40 = .ok (.aload_n 0, 1) := by decide +kernel
theorem d_F_init_41 : decode b_F_init 41 = .ok (.iload_n 1, 1) := by decide +kernel
theorem d_F_init_42 : decode b_F_init 42 = .ok (.putfield 32, 3) := by decide +kernel
theorem d_F_init_45 : decode b_F_init 45 = .ok (.return_, 1) := by decide +kernel
theorem d_F_addParameter_0 : decode b_F_addParameter 0 = .ok (.aload_n 0, 1) := by decide +kernel
theorem d_F_addParameter_1 : decode b_F_addParameter 1 = .ok (.getfield 21, 3) := by decide +kernel
theorem d_F_addParameter_4 : decode b_F_addParameter 4 = .ok (.iconst 4, 1) := by decide +kernel
theorem d_F_addParameter_5 : decode b_F_addParameter 5 = .ok (.if_icmp .ge 43, 3) := by decide +kernel
theorem d_F_addParameter_8 : decode b_F_addParameter 8 = .ok (.aload_n 0, 1) := by decide +kernel
theorem d_F_addParameter_9 : decode b_F_addParameter 9 = .ok (.getfield 9, 3) := by decide +kernel
theorem d_F_addParameter_12 : decode b_F_addParameter 12 = .ok (.aload_n 0, 1) := by decide +kernel
theorem d_F_addParameter_13 : decode b_F_addParameter 13 = .ok (.getfield 21, 3) := by decide +kernel
theorem d_F_addParameter_16 : decode b_F_addParameter 16 = .ok (.iload_n 1, 1) := by decide +kernel
theorem d_F_addParameter_17 : decode b_F_addParameter 17 = .ok (.iastore, 1) := by decide +kernel
theorem d_F_addParameter_18 : decode b_F_addParameter 18 = .ok (.aload_n 0, 1) := by decide +kernel
theorem d_F_addParameter_19 : decode b_F_addParameter 19 = .ok (.getfield 15, 3) := by decide +kernel
theorem d_F_addParameter_22 : decode b_F_addParameter 22 = .ok (.aload_n 0, 1) := by decide +kernel
theorem d_F_addParameter_23 : decode b_F_addParameter 23 = .ok (.getfield 21, 3) := by decide +kernel
theorem d_F_addParameter_26 : decode b_F_addParameter 26 = .ok (.iload_n 2, 1) := by decide +kernel
theorem d_F_addParameter_27 : decode b_F_addParameter 27 = .ok (.iastore, 1) := by decide +kernel
theorem d_F_addParameter_28 : decode b_F_addParameter 28 = .ok (.aload_n 0, 1) := by decide +kernel
theorem d_F_addParameter_29 : decode b_F_addParameter 29 = .ok (.getfield 18, 3) := by decide +kernel
theorem d_F_addParameter_32 : decode b_F_addParameter 32 = .ok (.aload_n 0, 1) := by decide +kernel
theorem d_F_addParameter_33 : decode b_F_addParameter 33 = .ok (.getfield 21, 3) := by decide +kernel
theorem d_F_addParameter_36 : decode b_F_addParameter 36 = .ok (.iload_n 3, 1) := by decide +kernel
theorem d_F_addParameter_37 : decode b_F_addParameter 37 = .ok (.iastore, 1) := by decide +kernel
theorem d_F_addParameter_38 : decode b_F_addParameter 38 = .ok (.aload_n 0, 1) := by decide +kernel
theorem d_F_addParameter_39 : decode b_F_addParameter 39 = .ok (.dup, 1) := by decide +kernel
theorem d_F_addParameter_40 : decode b_F_addParameter 40 = .ok (.getfield 21, 3) := by decide +kernel
theorem d_F_addParameter_43 : decode b_F_addParameter 43 = .ok (.iconst 1, 1) := by decide +kernel
theorem d_F_addParameter_44 : decode b_F_addParameter 44 = .ok (.iadd, 1) := by decide +kernel
theorem d_F_addParameter_45 : decode b_F_addParameter 45 = .ok (.putfield 21, 3) := by decide +kernel
theorem d_F_addParameter_48 : decode b_F_addParameter 48 = .ok (.return_, 1) := by decide +kernel
theorem d_R_readParameter_0 : decode b_R_readParameter 0 = .ok (.aload_n 0, 1) := by decide +kernel
theorem d_R_readParameter_1 : decode b_R_readParameter 1 = .ok (.getfield 9, 3) := by decide +kernel
theorem d_R_readParameter_4 : decode b_R_readParameter 4 = .ok (.istore_n 2, 1) := by decide +kernel
theorem d_R_readParameter_5 : decode b_R_readParameter 5 = .ok (.aload_n 0, 1) := by decide +kernel
theorem d_R_readParameter_6 : decode b_R_readParameter 6 = .ok (.bipush 97, 2) := by decide +kernel
theorem d_R_readParameter_8 : decode b_R_readParameter 8 = .ok (.bipush 116, 2) := by decide +kernel
theorem d_R_readParameter_10 : decode b_R_readParameter 10 = .ok (.invokevirtual 28, 3) := by decide +kernel
theorem d_R_readParameter_13 : decode b_R_readParameter 13 = .ok (.istore_n 3, 1) := by decide +kernel
theorem d_R_readParameter_14 : decode b_R_readParameter 14 = .ok (.aload_n 1, 1) := by decide +kernel
theorem d_R_readParameter_15 : decode b_R_readParameter 15 = .ok (.iload_n 3, 1) := by decide +kernel
theorem d_R_readParameter_16 : decode b_R_readParameter 16 = .ok (.iload_n 2, 1) := by decide +kernel
theorem d_R_readParameter_17 : decode b_R_readParameter 17 = .ok (.aload_n 0, 1) := by decide +kernel
theorem d_R_readParameter_18 : decode b_R_readParameter 18 = .ok (.bipush 48, 2) := by decide +kernel
theorem d_R_readParameter_20 : decode b_R_readParameter 20 = .ok (.bipush 50, 2) := by decide +kernel
theorem d_R_readParameter_22 : decode b_R_readParameter 22 = .ok (.invokevirtual 28, 3) := by decide +kernel
theorem d_R_readParameter_25 : decode b_R_readParameter 25 = .ok (.invokevirtual 66, 3) := by decide +kernel
theorem d_R_readParameter_28 : decode b_R_readParameter 28 = .ok (.return_, 1) := by decide +kernel
section FUN
variable {G : zG} {l : Launch} {r p z F : Nat} {σ : zS} {xs : mS} {xr : Int64} {xa : mA} {xl : mL} {xf : xF} {E : Nat → eN} {A : mA} {V P Y : mS}
theorem c_F_init (hF2 : F + 4 < 1000000) (f : Int32) : MetZ G l y_F_init b_F_init 2 none [] 1 3 12 [.ref F, .int f] (F + 1) (va_up σ F fnC0) (fun o n' σ' => o = .returned none ∧ n' = F + 4 ∧ σ' = gOv F (gF F f 0 0 none) (fun _ => 0) (fun _ => 0) (fun _ => 0) σ) := by
  refine MetZ.of (by decide) (Nat.le_of_ble_eq_true rfl) (fun K hK hR hpo hmc hms C => ?_)
  unfold fnC0
  refine z_aload_n C 1 d_F_init_0 rfl rfl ?_
  refine z_objinit C 4 d_F_init_1 rfl o_F_3 i_obj w_obj (by rw [hR]; decide) (by rw [hR]; decide) ?_
  refine z_aload_n C 5 d_F_init_4 rfl rfl ?_
  refine z_iconst C 6 d_F_init_5 rfl 4 (by decide) ?_
  refine z_newa C 8 0 4 (a := (4, .inl (fun _ => 0))) rfl rfl aw_int (fun _ => rfl) (fun h => h) d_F_init_6 rfl (by decide) (by decide) (by decide) (by omega) (by rw [hR]; simp only [zRm]; omega) (by rw [hR]; simp only [zRm]; omega) ?_
  rw [va_comm _ _ _ (by omega)]
  refine z_putFS C 11 q_F_9 rfl d_F_init_8 rfl (by omega) (z_ltb rfl) rfl rfl ?_
  refine z_aload_n C 12 d_F_init_11 rfl rfl ?_
  refine z_iconst C 13 d_F_init_12 rfl 4 (by decide) ?_
  refine z_newa C 15 0 4 (a := (4, .inl (fun _ => 0))) rfl rfl aw_int (fun _ => rfl) (fun h => h) d_F_init_13 rfl (by decide) (by decide) (by decide) (by omega) (by rw [hR]; simp only [zRm]; omega) (by rw [hR]; simp only [zRm]; omega) ?_
  rw [va_comm _ _ _ (by omega)]
  refine z_putFS C 18 q_F_15 rfl d_F_init_15 rfl (by omega) (z_ltb rfl) rfl rfl ?_
  refine z_aload_n C 19 d_F_init_18 rfl rfl ?_
  refine z_iconst C 20 d_F_init_19 rfl 4 (by decide) ?_
  refine z_newa C 22 0 4 (a := (4, .inl (fun _ => 0))) rfl rfl aw_int (fun _ => rfl) (fun h => h) d_F_init_20 rfl (by decide) (by decide) (by decide) (by omega) (by rw [hR]; simp only [zRm]; omega) (by rw [hR]; simp only [zRm]; omega) ?_
  rw [va_comm _ _ _ (by omega)]
  refine z_putFS C 25 q_F_18 rfl d_F_init_22 rfl (by omega) (z_ltb rfl) rfl rfl ?_
  refine z_aload_n C 26 d_F_init_25 rfl rfl ?_
  refine z_iconst C 27 d_F_init_26 rfl 0 (by decide) ?_
  refine z_putS C 30 p_F_21 d_F_init_27 rfl (by omega) (z_ltb rfl) rfl rfl ?_
  refine z_aload_n C 31 d_F_init_30 rfl rfl ?_
  refine z_iconst C 32 d_F_init_31 rfl 0 (by decide) ?_
  refine z_putS C 35 p_F_25 d_F_init_32 rfl (by omega) (z_ltb rfl) rfl rfl ?_
  refine z_aload_n C 36 d_F_init_35 rfl rfl ?_
  refine z_null C 37 d_F_init_36 rfl ?_
  refine z_putS C 40 p_F_28 d_F_init_37 rfl (by omega) (z_ltb rfl) rfl rfl ?_
  refine z_aload_n C 41 d_F_init_40 rfl rfl ?_
  refine z_iload_n C 42 d_F_init_41 rfl rfl ?_
  refine z_putFS C 45 q_F_32 rfl d_F_init_42 rfl (by omega) (z_ltb rfl) rfl rfl ?_
  exact z_vret C rfl d_F_init_45 (by rw [hpo]; exact ⟨rfl, rfl, gOv_mk⟩) (by rw [hmc]; omega) (by rw [hms]; omega)
theorem c_F_addParameter {n k : Nat} {f : Int32} (hF : 85 ≤ F) (hn : F + 4 ≤ n) (hk : k < 4) (v w t : Int32) : MetZ G l y_F_addParameter b_F_addParameter 4 none [] 0 0 0 [.ref F, .int v, .int w, .int t] n (xOv xs xr xa xl xf (gOv F (gF F f k 0 none) V P Y σ)) (fun o n' σ' => o = .returned none ∧ n' = n ∧ σ' = xOv xs xr xa xl xf (gOv F (gF F f (k + 1) 0 none) (upd V k v) (upd P k w) (upd Y k t) σ)) := by
  have h0 : ∀ V P Y, xOv xs xr xa xl xf (gOv F (gF F f k 0 none) V P Y σ) F = gF F f k 0 none := fun V P Y => (xOv_at hF).trans gOv_0
  refine MetZ.of (by decide) (Nat.le_of_ble_eq_true rfl) (fun K hK hR hpo hmc hms C => ?_)
  refine z_aload_n C 1 d_F_addParameter_0 rfl rfl ?_
  refine z_get C 4 f_F_21 d_F_addParameter_1 rfl (by omega) (h0 _ _ _) rfl ?_
  refine z_iconst C 5 d_F_addParameter_4 rfl 4 (by decide) ?_
  refine z_icmp_ge C 8 48 d_F_addParameter_5 rfl (by decide) (fun h9 => absurd h9 (fun q => absurd ((nI_leI (a := 4) (by omega) (by omega)).mp q) (by omega))) (fun _ => ?_)
  refine z_aload_n C 9 d_F_addParameter_8 rfl rfl ?_
  refine z_get C 12 f_F_9 d_F_addParameter_9 rfl (by omega) (h0 _ _ _) rfl ?_
  refine z_aload_n C 13 d_F_addParameter_12 rfl rfl ?_
  refine z_get C 16 f_F_21 d_F_addParameter_13 rfl (by omega) (h0 _ _ _) rfl ?_
  refine z_iload_n C 17 d_F_addParameter_16 rfl rfl ?_
  refine z_iast C 18 k d_F_addParameter_17 rfl (by omega) ((xOv_at (by omega)).trans gOv_1) rfl hk (by decide) ?_
  rw [xOv_up (by omega), gOv_up1]
  refine z_aload_n C 19 d_F_addParameter_18 rfl rfl ?_
  refine z_get C 22 f_F_15 d_F_addParameter_19 rfl (by omega) (h0 _ _ _) rfl ?_
  refine z_aload_n C 23 d_F_addParameter_22 rfl rfl ?_
  refine z_get C 26 f_F_21 d_F_addParameter_23 rfl (by omega) (h0 _ _ _) rfl ?_
  refine z_iload_n C 27 d_F_addParameter_26 rfl rfl ?_
  refine z_iast C 28 k d_F_addParameter_27 rfl (by omega) ((xOv_at (by omega)).trans gOv_2) rfl hk (by decide) ?_
  rw [xOv_up (by omega), gOv_up2]
  refine z_aload_n C 29 d_F_addParameter_28 rfl rfl ?_
  refine z_get C 32 f_F_18 d_F_addParameter_29 rfl (by omega) (h0 _ _ _) rfl ?_
  refine z_aload_n C 33 d_F_addParameter_32 rfl rfl ?_
  refine z_get C 36 f_F_21 d_F_addParameter_33 rfl (by omega) (h0 _ _ _) rfl ?_
  refine z_iload_n C 37 d_F_addParameter_36 rfl rfl ?_
  refine z_iast C 38 k d_F_addParameter_37 rfl (by omega) ((xOv_at (by omega)).trans gOv_3) rfl hk (by decide) ?_
  rw [xOv_up (by omega), gOv_up3]
  refine z_aload_n C 39 d_F_addParameter_38 rfl rfl ?_
  refine z_dup C 40 d_F_addParameter_39 rfl rfl ?_
  refine z_get C 43 f_F_21 d_F_addParameter_40 rfl (by omega) (h0 _ _ _) rfl ?_
  refine z_iconst C 44 d_F_addParameter_43 rfl 1 (by decide) ?_
  refine z_iadd C 45 d_F_addParameter_44 rfl ?_
  refine z_put C 48 p_F_21 d_F_addParameter_45 rfl (by omega) (h0 _ _ _) (z_ltb rfl) rfl rfl ?_
  rw [nI_1, xOv_up (by omega)]
  show Z G K _ (xOv _ _ _ _ _ (va_up _ _ (gF F f (k + 1) 0 none))) _ _ _ _ _
  rw [gOv_up0]
  exact z_vret C rfl d_F_addParameter_48 (by rw [hpo]; exact ⟨rfl, rfl, rfl⟩) (by rw [hmc]; omega) (by rw [hms]; omega)
def gIll (r : Nat) (σ : zS) (xs : mS) (xr : Int64) (xa : mA) (xl : mL) (xf : xF) (q : Nat) : zPost := fun o n' σ' => ∃ (x : Nat) (τ : zS), o = .threw x ∧ n' = x + 1 ∧ r < x ∧ x ≤ r + 310 ∧ σ' = xOv (upd xs 4 (nI q)) xr xa xl xf τ ∧ τ x = .inr (9, []) ∧ ∀ k, k < r → τ k = σ k
def gPre (r p z : Nat) (σ : zS) (xa : mA) : Prop := 114 ≤ r ∧ r < 800000 ∧ σ r = rdC p z ∧ z ≤ 150 ∧ p ≤ z ∧ ∀ i, i < 150 → narrow .char (.int (xa 1 i)) = .int (xa 1 i)
theorem gIll_mk {c x : va_E} {q : Nat} : gIll r σ xs xr xa xl xf q (.threw (r + 5)) (r + 5 + 1) (xOv (upd xs 4 (nI q)) xr xa xl xf (va_up (gOv (r + 1) c V P Y (va_up σ r x)) (r + 5) (.inr (9, [])))) := by
  refine ⟨r + 5, _, rfl, rfl, by omega, by omega, rfl, va_up_self _ _ _, fun k hk => ?_⟩
  rw [va_up_ne _ _ (by omega), gOv_out (by omega), va_up_ne _ _ (by omega)]
theorem c_R_readParameter {k : Nat} {f : Int32} (h : gPre r p z (va_up σ r (rdC p z)) xa) (hk : k < 4) {mc ms : Nat} (hm : ¬ ((97 ≤ rlk (xa 1) z p ∧ rlk (xa 1) z p ≤ 116) ∧ 48 ≤ rlk (xa 1) z (p + 1) ∧ rlk (xa 1) z (p + 1) ≤ 50) → 1 ≤ mc ∧ 6 ≤ ms) :
    MetZ G l y_R_readParameter b_R_readParameter 4 none [] 8 mc ms [.ref r, .ref (r + 1)] (r + 5) (xOv xs xr xa xl xf (gOv (r + 1) (gF (r + 1) f k 0 none) V P Y (va_up σ r (rdC p z))))
    (fun o n' σ' => if 97 ≤ rlk (xa 1) z p ∧ rlk (xa 1) z p ≤ 116 then (if 48 ≤ rlk (xa 1) z (p + 1) ∧ rlk (xa 1) z (p + 1) ≤ 50 then o = .returned none ∧ n' = r + 5 ∧ σ' = xOv xs xr xa xl xf (gOv (r + 1) (gF (r + 1) f (k + 1) 0 none) (upd V k (rlk (xa 1) z p - 97)) (upd P k (nI p)) (upd Y k (rlk (xa 1) z (p + 1) - 48)) (va_up σ r (rdC (p + 2) z))) else gIll r σ xs xr xa xl xf (p + 1) o n' σ') else gIll r σ xs xr xa xl xf p o n' σ') := by
  obtain ⟨hr, hr2, hrd0, hz, hp, hc⟩ := h
  have hrr : ∀ q c V P Y, gOv (r + 1) c V P Y (va_up σ r (rdC q z)) r = rdC q z := fun q c V P Y => (gOv_out (by omega)).trans (va_up_self _ _ _)
  have hrd : ∀ q c V P Y, xOv xs xr xa xl xf (gOv (r + 1) c V P Y (va_up σ r (rdC q z))) r = .inr (4, [.ref 1, .int (nI z), .ref 2, .int (nI q)]) := fun q c V P Y => (xOv_at (by omega)).trans (hrr q c V P Y)
  refine MetZ.of (by decide) (Nat.le_of_ble_eq_true rfl) (fun K hK hR hpo hmc hms C => ?_)
  refine z_aload_n C 1 d_R_readParameter_0 rfl rfl ?_
  refine z_get C 4 f_R_9 d_R_readParameter_1 rfl (by omega) (hrd _ _ _ _ _) rfl ?_
  refine z_istore_n C 5 d_R_readParameter_4 rfl (by decide) ?_
  refine z_aload_n C 6 d_R_readParameter_5 rfl rfl ?_
  refine z_bipush C 8 d_R_readParameter_6 rfl 97 (by decide) ?_
  refine z_bipush C 10 d_R_readParameter_8 rfl 116 (by decide) ?_
  by_cases q1 : 97 ≤ rlk (xa 1) z p ∧ rlk (xa 1) z p ≤ 116
  · simp only [if_pos q1] at hpo
    have hpz : p < z := rlk_pos q1.1 (by decide)
    refine z_call C 13 (c_R_takeOneOf (p := p) (z := z) (by omega) (by omega) (by omega) (by omega) (hrr _ _ _ _ _) hz (by omega) hc 97 116 (mc := 0) (ms := 0) (fun w => absurd q1 w)) w_R_takeOneOf ini_R d_R_readParameter_10 rfl (z_goV (As := [.int 97, .int 116]) C l_R_28 w_R_takeOneOf d_R_readParameter_10 (by omega) ((hrd _ _ _ _ _)) rfl rfl) (Nat.le_of_ble_eq_true rfl) (by rw [hR]; simp only [zRm]; omega) (by rw [hR]; simp only [zRm]; omega) (by rw [hR]; simp only [zRm]; omega) (by rw [hR]; simp only [zRm]; omega) (fun v n' σ' hv => ?_) (fun x n' σ' hv => ?_)
    rotate_left
    · rcases hv with ⟨-, e0, -⟩ | ⟨w, -⟩
      · cases e0
      · exact absurd q1 w
    obtain ⟨-, e0, rfl, rfl⟩ := hv.resolve_right (fun w => w.1 q1)
    cases e0
    rw [gOv_low (by omega), va_up2]
    refine z_istore_n C 14 d_R_readParameter_13 rfl (by decide) ?_
    refine z_aload_n C 15 d_R_readParameter_14 rfl rfl ?_
    refine z_iload_n C 16 d_R_readParameter_15 rfl rfl ?_
    refine z_iload_n C 17 d_R_readParameter_16 rfl rfl ?_
    refine z_aload_n C 18 d_R_readParameter_17 rfl rfl ?_
    refine z_bipush C 20 d_R_readParameter_18 rfl 48 (by decide) ?_
    refine z_bipush C 22 d_R_readParameter_20 rfl 50 (by decide) ?_
    by_cases q2 : 48 ≤ rlk (xa 1) z (p + 1) ∧ rlk (xa 1) z (p + 1) ≤ 50
    · simp only [if_pos q2] at hpo
      refine z_call C 25 (c_R_takeOneOf (p := p + 1) (z := z) (by omega) (by omega) (by omega) (by omega) (hrr _ _ _ _ _) hz (by omega) hc 48 50 (mc := 0) (ms := 0) (fun w => absurd q2 w)) w_R_takeOneOf ini_R d_R_readParameter_22 rfl (z_goV (As := [.int 48, .int 50]) C l_R_28 w_R_takeOneOf d_R_readParameter_22 (by omega) ((hrd _ _ _ _ _)) rfl rfl) (Nat.le_of_ble_eq_true rfl) (by rw [hR]; simp only [zRm]; omega) (by rw [hR]; simp only [zRm]; omega) (by rw [hR]; simp only [zRm]; omega) (by rw [hR]; simp only [zRm]; omega) (fun v n' σ' hv => ?_) (fun x n' σ' hv => ?_)
      rotate_left
      · rcases hv with ⟨-, e0, -⟩ | ⟨w, -⟩
        · cases e0
        · exact absurd q2 w
      obtain ⟨-, e0, rfl, rfl⟩ := hv.resolve_right (fun w => w.1 q2)
      cases e0
      rw [gOv_low (by omega), va_up2]
      refine z_call C 28 (c_F_addParameter (k := k) (by omega) (by omega) hk _ _ _) w_F_addParameter ini_F d_R_readParameter_25 rfl (z_goV (As := [.int (xlk xa p z - 97), .int (nI p), .int (xlk xa (p + 1) z - 48)]) C l_R_66 w_F_addParameter d_R_readParameter_25 (by omega) (((xOv_at (by omega)).trans gOv_0)) rfl rfl) (Nat.le_of_ble_eq_true rfl) (by rw [hR]; simp only [zRm]; omega) (by rw [hR]; simp only [zRm]; omega) (by rw [hR]; simp only [zRm]; omega) (by rw [hR]; simp only [zRm]; omega) (fun v n' σ' hv => ?_) (fun x n' σ' hv => ?_)
      rotate_left
      · cases hv.1
      obtain ⟨e0, rfl, rfl⟩ := hv
      cases e0
      exact z_vret C rfl d_R_readParameter_28 (by rw [hpo]; exact ⟨rfl, rfl, rfl⟩) (by rw [hmc]; omega) (by rw [hms]; omega)
    · simp only [if_neg q2] at hpo
      have hb := hm (fun w => q2 w.2)
      refine z_call C 25 (c_R_takeOneOf (p := p + 1) (z := z) (by omega) (by omega) (by omega) (by omega) (hrr _ _ _ _ _) hz (by omega) hc 48 50 (mc := 1) (ms := 6) (fun w => ⟨by omega, by omega⟩)) w_R_takeOneOf ini_R d_R_readParameter_22 rfl (z_goV (As := [.int 48, .int 50]) C l_R_28 w_R_takeOneOf d_R_readParameter_22 (by omega) ((hrd _ _ _ _ _)) rfl rfl) (Nat.le_of_ble_eq_true rfl) (by rw [hR]; simp only [zRm]; omega) (by rw [hR]; simp only [zRm]; omega) (by rw [hR]; simp only [zRm]; omega) (by rw [hR]; simp only [zRm]; omega) (fun v n' σ' hv => ?_) (fun x n' σ' hv => ?_)
      rotate_left
      · obtain ⟨-, e0, rfl, rfl⟩ := hv.resolve_left (fun w => q2 w.1)
        cases e0
        exact zx_out C (fun h hh => nomatch hh) (by rw [hpo]; exact gIll_mk) (by rw [hmc]; omega) (by rw [hms]; omega)
      · rcases hv with ⟨w, -⟩ | ⟨-, e0, -⟩
        · exact absurd w q2
        · cases e0
  · simp only [if_neg q1] at hpo
    have hb := hm (fun w => q1 w.1)
    refine z_call C 13 (c_R_takeOneOf (p := p) (z := z) (by omega) (by omega) (by omega) (by omega) (hrr _ _ _ _ _) hz (by omega) hc 97 116 (mc := 1) (ms := 6) (fun w => ⟨by omega, by omega⟩)) w_R_takeOneOf ini_R d_R_readParameter_10 rfl (z_goV (As := [.int 97, .int 116]) C l_R_28 w_R_takeOneOf d_R_readParameter_10 (by omega) ((hrd _ _ _ _ _)) rfl rfl) (Nat.le_of_ble_eq_true rfl) (by rw [hR]; simp only [zRm]; omega) (by rw [hR]; simp only [zRm]; omega) (by rw [hR]; simp only [zRm]; omega) (by rw [hR]; simp only [zRm]; omega) (fun v n' σ' hv => ?_) (fun x n' σ' hv => ?_)
    rotate_left
    · obtain ⟨-, e0, rfl, rfl⟩ := hv.resolve_left (fun w => q1 w.1)
      cases e0
      exact zx_out C (fun h hh => nomatch hh) (by rw [hpo]; exact gIll_mk) (by rw [hmc]; omega) (by rw [hms]; omega)
    · rcases hv with ⟨w, -⟩ | ⟨-, e0, -⟩
      · exact absurd w q1
      · cases e0
end FUN
