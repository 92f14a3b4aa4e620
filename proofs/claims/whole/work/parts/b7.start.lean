theorem d_F_takesNumbersOnly_0 : decode b_F_takesNumbersOnly 0 = .ok (.iconst 0, 1) := by decide +kernel
theorem d_F_takesNumbersOnly_1 : decode b_F_takesNumbersOnly 1 = .ok (.istore_n 1, 1) := by decide +kernel
theorem d_F_takesNumbersOnly_2 : decode b_F_takesNumbersOnly 2 = .ok (.iload_n 1, 1) := by decide +kernel
theorem d_F_takesNumbersOnly_3 : decode b_F_takesNumbersOnly 3 = .ok (.aload_n 0, 1) := by decide +kernel
theorem d_F_takesNumbersOnly_4 : decode b_F_takesNumbersOnly 4 = .ok (.getfield 21, 3) := by decide +kernel
theorem d_F_takesNumbersOnly_7 : decode b_F_takesNumbersOnly 7 = .ok (.if_icmp .ge 20, 3) := by decide +kernel
theorem d_F_takesNumbersOnly_10 : decode b_F_takesNumbersOnly 10 = .ok (.aload_n 0, 1) := by decide +kernel
theorem d_F_takesNumbersOnly_11 : decode b_F_takesNumbersOnly 11 = .ok (.getfield 18, 3) := by decide +kernel
theorem d_F_takesNumbersOnly_14 : decode b_F_takesNumbersOnly 14 = .ok (.iload_n 1, 1) := by decide +kernel
theorem d_F_takesNumbersOnly_15 : decode b_F_takesNumbersOnly 15 = .ok (.iaload, 1) := by decide +kernel
theorem d_F_takesNumbersOnly_16 : decode b_F_takesNumbersOnly 16 = .ok (.ifCond .eq 5, 3) := by decide +kernel
theorem d_F_takesNumbersOnly_19 : decode b_F_takesNumbersOnly 19 = .ok (.iconst 0, 1) := by decide +kernel
theorem d_F_takesNumbersOnly_20 : decode b_F_takesNumbersOnly 20 = .ok (.ireturn, 1) := by decide +kernel
theorem d_F_takesNumbersOnly_21 : decode b_F_takesNumbersOnly 21 = .ok (.iinc 1 1, 3) := by decide +kernel
theorem d_F_takesNumbersOnly_24 : decode b_F_takesNumbersOnly 24 = .ok (.goto (-22), 3) := by decide +kernel
theorem d_F_takesNumbersOnly_27 : decode b_F_takesNumbersOnly 27 = .ok (.iconst 1, 1) := by decide +kernel
theorem d_F_takesNumbersOnly_28 : decode b_F_takesNumbersOnly 28 = .ok (.ireturn, 1) := by decide +kernel
theorem d_U_start_0 : decode b_U_start 0 = .ok (.aload_n 0, 1) := by decide +kernel
theorem d_U_start_1 : decode b_U_start 1 = .ok (.getfield 12, 3) := by decide +kernel
theorem d_U_start_4 : decode b_U_start 4 = .ok (.invokevirtual 33, 3) := by decide +kernel
theorem d_U_start_7 : decode b_U_start 7 = .ok (.aload_n 0, 1) := by decide +kernel
theorem d_U_start_8 : decode b_U_start 8 = .ok (.iconst 0, 1) := by decide +kernel
theorem d_U_start_9 : decode b_U_start 9 = .ok (.putfield 18, 3) := by decide +kernel
theorem d_U_start_12 : decode b_U_start 12 = .ok (.aload_n 0, 1) := by decide +kernel
theorem d_U_start_13 : decode b_U_start 13 = .ok (.iconst 0, 1) := by decide +kernel
theorem d_U_start_14 : decode b_U_start 14 = .ok (.putfield 22, 3) := by decide +kernel
theorem d_U_start_17 : decode b_U_start 17 = .ok (.aload_n 0, 1) := by decide +kernel
theorem d_U_start_18 : decode b_U_start 18 = .ok (.iconst 1, 1) := by decide +kernel
theorem d_U_start_19 : decode b_U_start 19 = .ok (.putfield 30, 3) := by decide +kernel
theorem d_U_start_22 : decode b_U_start 22 = .ok (.iconst 0, 1) := by decide +kernel
theorem d_U_start_23 : decode b_U_start 23 = .ok (.istore_n 3, 1) := by decide +kernel
theorem d_U_start_24 : decode b_U_start 24 = .ok (.iload_n 3, 1) := by decide +kernel
theorem d_U_start_25 : decode b_U_start 25 = .ok (.aload_n 1, 1) := by decide +kernel
theorem d_U_start_26 : decode b_U_start 26 = .ok (.getfield 36, 3) := by decide +kernel
theorem d_U_start_29 : decode b_U_start 29 = .ok (.if_icmp .ge 25, 3) := by decide +kernel
theorem d_U_start_32 : decode b_U_start 32 = .ok (.aload_n 0, 1) := by decide +kernel
theorem d_U_start_33 : decode b_U_start 33 = .ok (.getfield 27, 3) := by decide +kernel
theorem d_U_start_36 : decode b_U_start 36 = .ok (.iconst 0, 1) := by decide +kernel
theorem d_U_start_37 : decode b_U_start 37 = .ok (.aaload, 1) := by decide +kernel
theorem d_U_start_38 : decode b_U_start 38 = .ok (.aload_n 1, 1) := by decide +kernel
theorem d_U_start_39 : decode b_U_start 39 = .ok (.getfield 41, 3) := by decide +kernel
theorem d_U_start_42 : decode b_U_start 42 = .ok (.iload_n 3, 1) := by decide +kernel
theorem d_U_start_43 : decode b_U_start 43 = .ok (.iaload, 1) := by decide +kernel
theorem d_U_start_44 : decode b_U_start 44 = .ok (.aload_n 2, 1) := by decide +kernel
theorem d_U_start_45 : decode b_U_start 45 = .ok (.iload_n 3, 1) := by decide +kernel
theorem d_U_start_46 : decode b_U_start 46 = .ok (.laload, 1) := by decide +kernel
theorem d_U_start_47 : decode b_U_start 47 = .ok (.lastore, 1) := by decide +kernel
theorem d_U_start_48 : decode b_U_start 48 = .ok (.iinc 3 1, 3) := by decide +kernel
theorem d_U_start_51 : decode b_U_start 51 = .ok (.goto (-27), 3) := by decide +kernel
theorem d_U_start_54 : decode b_U_start 54 = .ok (.aload_n 0, 1) := by decide +kernel
theorem d_U_start_55 : decode b_U_start 55 = .ok (.aload_n 1, 1) := by decide +kernel
theorem d_U_start_56 : decode b_U_start 56 = .ok (.getfield 45, 3) := by decide +kernel
theorem d_U_start_59 : decode b_U_start 59 = .ok (.iconst 1, 1) := by decide +kernel
theorem d_U_start_60 : decode b_U_start 60 = .ok (.iconst 0, 1) := by decide +kernel
theorem d_U_start_61 : decode b_U_start 61 = .ok (.invokevirtual 49, 3) := by decide +kernel
theorem d_U_start_64 : decode b_U_start 64 = .ok (.lreturn, 1) := by decide +kernel
section UST
variable {G : zG} {l : Launch} {n : Nat} {σ : zS} {xr : Int64} {xf : xF} {s : xT} {P : Nat → Option uF}
theorem c_F_takesNumbersOnly {xs : mS} {xa : mA} {xl : mL} {a cn : Nat} {f rt : Int32} {bd : Option Nat} {Y : mS} (ha : 114 ≤ a) (han : a + 4 ≤ n) (hcn : cn ≤ 4) (h0 : σ a = gF a f cn rt bd) (h3 : σ (a + 3) = .inl (0, 4, .inl Y)) : MetZ G l y_F_takesNumbersOnly b_F_takesNumbersOnly 2 (some .boolean) [] 0 0 0 [.ref a] n (xOv xs xr xa xl xf σ) (fun o n' σ' => (((∀ k, k < cn → Y k = 0) ∧ o = .returned (some (.int 1))) ∨ (¬ (∀ k, k < cn → Y k = 0) ∧ o = .returned (some (.int 0)))) ∧ n' = n ∧ σ' = xOv xs xr xa xl xf σ) := by
  refine MetZ.of (by decide) (Nat.le_of_ble_eq_true rfl) (fun K hK hR hpo hmc hms C => ?_)
  have hc : xOv xs xr xa xl xf σ a = gF a f cn rt bd := (xOv_at (by omega)).trans h0
  have hy : xOv xs xr xa xl xf σ (a + 3) = .inl (0, 4, .inl Y) := (xOv_at (by omega)).trans h3
  have loop : ∀ m k, m + k = cn → (∀ j, j < k → Y j = 0) → Z G K n (xOv xs xr xa xl xf σ) 0 0 2 [(1, .int (nI k)), (0, .ref a)] [] := fun m => by
    induction m with
    | zero =>
      intro k hk hj
      obtain rfl : k = cn := by omega
      refine z_iload_n C 3 d_F_takesNumbersOnly_2 rfl rfl ?_
      refine z_aload_n C 4 d_F_takesNumbersOnly_3 rfl rfl ?_
      refine z_get C 7 f_F_21 d_F_takesNumbersOnly_4 rfl (by omega) hc rfl ?_
      refine z_icmp_ge C 10 27 d_F_takesNumbersOnly_7 rfl (by decide) (fun _ => ?_) (fun h9 => absurd ((nI_leI (a := k) (b := k) (by omega) (by omega)).mpr (Nat.le_refl _)) h9)
      refine z_iconst C 28 d_F_takesNumbersOnly_27 rfl 1 (by decide) ?_
      exact z_zret C rfl (rfl) d_F_takesNumbersOnly_28 (by rw [hpo]; exact ⟨Or.inl ⟨hj, rfl⟩, rfl, rfl⟩) (by rw [hmc]; omega) (by rw [hms]; omega)
    | succ m ih =>
      intro k hk hj
      refine z_iload_n C 3 d_F_takesNumbersOnly_2 rfl rfl ?_
      refine z_aload_n C 4 d_F_takesNumbersOnly_3 rfl rfl ?_
      refine z_get C 7 f_F_21 d_F_takesNumbersOnly_4 rfl (by omega) hc rfl ?_
      refine z_icmp_ge C 10 27 d_F_takesNumbersOnly_7 rfl (by decide) (fun h9 => absurd h9 (fun q => absurd ((nI_leI (a := cn) (b := k) (by omega) (by omega)).mp q) (by omega))) (fun _ => ?_)
      refine z_aload_n C 11 d_F_takesNumbersOnly_10 rfl rfl ?_
      refine z_get C 14 f_F_18 d_F_takesNumbersOnly_11 rfl (by omega) hc rfl ?_
      refine z_iload_n C 15 d_F_takesNumbersOnly_14 rfl rfl ?_
      refine z_iald C 16 k d_F_takesNumbersOnly_15 rfl (by omega) hy rfl (by omega) (by decide) ?_
      refine z_if_eq C 19 21 d_F_takesNumbersOnly_16 rfl (by decide) (fun q => ?_) (fun q => ?_)
      · refine z_iinc C 24 d_F_takesNumbersOnly_21 rfl (nI (k + 1)) rfl (z_inc k) (by decide) ?_
        refine z_goto C 2 d_F_takesNumbersOnly_24 (by decide) ?_
        refine ih (k + 1) (by omega) (fun j hj' => ?_)
        by_cases w : j = k
        · rw [w]; exact q
        · exact hj j (by omega)
      · refine z_iconst C 20 d_F_takesNumbersOnly_19 rfl 0 (by decide) ?_
        exact z_zret C rfl (rfl) d_F_takesNumbersOnly_20 (by rw [hpo]; exact ⟨Or.inr ⟨fun w => q (w k (by omega)), rfl⟩, rfl, rfl⟩) (by rw [hmc]; omega) (by rw [hms]; omega)
  refine z_iconst C 1 d_F_takesNumbersOnly_0 rfl 0 (by decide) ?_
  refine z_istore_n C 2 d_F_takesNumbersOnly_1 rfl (by decide) ?_
  exact loop cn 0 (by omega) (fun j hj => absurd hj (by omega))
def xSt0 (s : xT) : xT := (upd (upd (upd (upd (upd (upd s.1 10 0) 8 0) 9 0) 5 0) 6 0) 7 1, va_up s.2.1 18 (fl (s.2.1 18) 8 0), s.2.2)
def xPar (V : mS) : Nat → Nat → xT → xT
  | 0, _, s => s
  | m + 1, k, s => xPar V m (k + 1) (xSet 0 (cIx (V k)) (s.2.2 4 k) s)
theorem c_U_start {g : Nat} {u : uF} {res : xT × (Nat ⊕ Int64)} (hO : uOk n σ P) (hPu : P g = some u) (hres : cvC P 8 g 0 (xPar u.2.2.2.1 u.2.1 0 (xSt0 s)) = some res) : MetZ G l y_U_start b_U_start 4 (some .long) [] 170 1 6 [.ref 5, .ref u.1, .ref 4] n (uSt σ xr xf s) (uPost n σ xr xf res) := by
  obtain ⟨hn1, hn9, hP⟩ := id hO
  obtain ⟨hu1, hu2, hu4, hu5, ⟨uf, urt, hu6⟩, hu7, hu8, hu9, hu10, hu11⟩ := hP _ u hPu
  unfold cvC at hres
  rw [hPu] at hres
  have hres : cvD P (cvC P 7) u.2.2.2.2 0 8 0 (xPar u.2.2.2.1 u.2.1 0 (xSt0 s)) = some res := hres
  refine MetZ.of (by decide) (Nat.le_of_ble_eq_true rfl) (fun K hK hR hpo hmc hms C => ?_)
  subst hK
  have hcu : ∀ s', uSt σ xr xf s' u.1 = gF u.1 uf u.2.1 urt (some (u.1 + 4)) := fun s' => (xOv_at (by omega)).trans hu6
  have hcV : ∀ s', uSt σ xr xf s' (u.1 + 1) = .inl (0, 4, .inl u.2.2.2.1) := fun s' => (xOv_at (by omega)).trans hu7
  have hmc' : (kR K).cells ≤ kmc K := by rw [hR, hmc]; exact Nat.le_refl _
  have hms' : (kR K).slots ≤ kms K := by rw [hR, hms]; exact Nat.le_refl _
  have hm' : (∃ q, res.2 = .inl q) → 1 ≤ (kR K).cells ∧ 6 ≤ (kR K).slots := by rw [hR]; exact fun _ => ⟨Nat.le_refl _, Nat.le_refl _⟩
  have loop : ∀ (m k : Nat) (s1 : xT), m + k = u.2.1 → cvD P (cvC P 7) u.2.2.2.2 0 8 0 (xPar u.2.2.2.1 m k s1) = some res → Z G K n (uSt σ xr xf s1) 0 0 24 [(3, .int (nI k)), (0, .ref 5), (1, .ref u.1), (2, .ref 4)] [] := fun m => by
    induction m with
    | zero =>
      intro k s1 hk hres
      obtain rfl : k = u.2.1 := by omega
      have hres := (xB_P _).trans hres
      refine z_iload_n C 25 d_U_start_24 rfl rfl ?_
      refine z_aload_n C 26 d_U_start_25 rfl rfl ?_
      refine z_get C 29 f_U_36 d_U_start_26 rfl (by omega) (hcu _) rfl ?_
      refine z_icmp_ge C 32 54 d_U_start_29 rfl (by decide) (fun _ => ?_) (fun h9 => absurd ((nI_leI (a := u.2.1) (b := u.2.1) (by omega) (by omega)).mpr (Nat.le_refl _)) h9)
      refine z_aload_n C 55 d_U_start_54 rfl rfl ?_
      refine z_aload_n C 56 d_U_start_55 rfl rfl ?_
      refine z_get (v := .ref (u.1 + 4)) C 59 f_U_45 d_U_start_56 rfl (by omega) (hcu _) rfl ?_
      refine z_iconst C 60 d_U_start_59 rfl 1 (by decide) ?_
      refine z_iconst C 61 d_U_start_60 rfl 0 (by decide) ?_
      refine zu_sub C 64 hres (fun x0 hx0 mc ms hm => uHyp_all 7 (by omega) 8 n σ xr xf P (u.1 + 4) u.2.2.1 u.2.2.2.2 0 0 _ x0 mc ms ⟨hO, by omega, by omega, hu8, hu9⟩ hu10 hu5 (by omega) hx0 hm) w_U_work ini_U d_U_start_61 rfl (z_goV (As := [.ref (u.1 + 4), .int 1, .int 0]) C l_U_49 w_U_work d_U_start_61 (by omega) rfl rfl rfl) (Nat.le_of_ble_eq_true rfl) (by rw [hR]; simp only [zRm]; omega) (by rw [hR]; simp only [zRm]; omega) hmc' hms' hpo hm' (fun s2 x2 hres => ?_)
      cases hres
      exact z_lret C rfl d_U_start_64 (by rw [hpo]; exact ⟨rfl, rfl, rfl⟩) (by rw [hmc]; omega) (by rw [hms]; omega)
    | succ m ih =>
      intro k s1 hk hres
      obtain ⟨vj, hvj, evj⟩ := hu11 k (by omega)
      have hxj : cIx (u.2.2.2.1 k) = vj := by rw [evj]; exact nI_clamp (by omega)
      unfold xPar at hres
      rw [hxj] at hres
      refine z_iload_n C 25 d_U_start_24 rfl rfl ?_
      refine z_aload_n C 26 d_U_start_25 rfl rfl ?_
      refine z_get C 29 f_U_36 d_U_start_26 rfl (by omega) (hcu _) rfl ?_
      refine z_icmp_ge C 32 54 d_U_start_29 rfl (by decide) (fun h9 => absurd h9 (fun q => absurd ((nI_leI (a := u.2.1) (b := k) (by omega) (by omega)).mp q) (by omega))) (fun _ => ?_)
      refine z_aload_n C 33 d_U_start_32 rfl rfl ?_
      refine z_get C 36 f_U_27 d_U_start_33 rfl (by omega) rfl rfl ?_
      refine z_iconst C 37 d_U_start_36 rfl 0 (by decide) ?_
      refine z_aald C 38 0 (ty := .array .long) (some 20) d_U_start_37 rfl (by omega) rfl rfl rfl rfl (by omega) (by decide) rfl ?_
      refine z_aload_n C 39 d_U_start_38 rfl rfl ?_
      refine z_get C 42 f_U_41 d_U_start_39 rfl (by omega) (hcu _) rfl ?_
      refine z_iload_n C 43 d_U_start_42 rfl rfl ?_
      refine z_iald C 44 k d_U_start_43 rfl (by omega) (hcV _) rfl (by omega) (by decide) ?_
      refine z_aload_n C 45 d_U_start_44 rfl rfl ?_
      refine z_iload_n C 46 d_U_start_45 rfl rfl ?_
      refine zx_lald C 47 k d_U_start_46 rfl (by omega) (Or.inl rfl) rfl (show k < 4 by omega) (by decide) ?_
      refine zx_last (a := 20) C 48 vj d_U_start_47 rfl (by omega) (by unfold xIsL; omega) evj (show vj < 20 from hvj) (by decide) ?_
      refine z_iinc C 51 d_U_start_48 rfl (nI (k + 1)) rfl (z_inc k) (by decide) ?_
      refine z_goto C 24 d_U_start_51 (by decide) ?_
      exact ih (k + 1) (xSet 0 vj (s1.2.2 4 k) s1) (by omega) hres
  refine z_aload_n C 1 d_U_start_0 rfl rfl ?_
  refine z_get C 4 f_U_12 d_U_start_1 rfl (by omega) rfl rfl ?_
  refine z_call C 7 (c_O_empty (by omega)) w_O_empty ini_O d_U_start_4 rfl (z_goV (As := []) C l_U_33 w_O_empty d_U_start_4 (by omega) rfl rfl rfl) (Nat.le_of_ble_eq_true rfl) (by rw [hR]; simp only [zRm]; omega) (by rw [hR]; simp only [zRm]; omega) (by rw [hR]; simp only [zRm]; omega) (by rw [hR]; simp only [zRm]; omega) (fun v n' σ' hv => ?_) (fun x n' σ' hv => ?_)
  rotate_left
  · cases hv.1
  obtain ⟨e0, e1, rfl⟩ := hv
  cases e0
  obtain rfl : n = n' := e1.symm
  refine z_aload_n C 8 d_U_start_7 rfl rfl ?_
  refine z_iconst C 9 d_U_start_8 rfl 0 (by decide) ?_
  refine zx_put5 C 12 5 p_U_18 d_U_start_9 rfl (by omega) (by decide) (by decide) (by decide) rfl ?_
  refine z_aload_n C 13 d_U_start_12 rfl rfl ?_
  refine z_iconst C 14 d_U_start_13 rfl 0 (by decide) ?_
  refine zx_put5 C 17 6 p_U_22 d_U_start_14 rfl (by omega) (by decide) (by decide) (by decide) rfl ?_
  refine z_aload_n C 18 d_U_start_17 rfl rfl ?_
  refine z_iconst C 19 d_U_start_18 rfl 1 (by decide) ?_
  refine zx_put5 C 22 7 p_U_30 d_U_start_19 rfl (by omega) (by decide) (by decide) (by decide) rfl ?_
  refine z_iconst C 23 d_U_start_22 rfl 0 (by decide) ?_
  refine z_istore_n C 24 d_U_start_23 rfl (by decide) ?_
  exact loop u.2.1 0 (xSt0 s) (by omega) hres
def sPost (n : Nat) (σ : zS) (xr : Int64) (xf : xF) (rt : Int32) (x : xT × (Nat ⊕ Int64)) : zPost := fun o n' σ' => match x with
  | (s, .inl q) => o = .threw n ∧ n' = n + 1 ∧ σ' = xOv s.1 xr s.2.1 s.2.2 xf (va_up σ n (.inr (q, [])))
  | (s, .inr v) => o = .returned (some (.int rt)) ∧ n' = n ∧ σ' = xOv (upd s.1 3 rt) v s.2.1 s.2.2 xf σ
theorem c_S_run_arr {xs : mS} {xa : mA} {xl : mL} {a cn : Nat} {f rt : Int32} {bd : Option Nat} {Y : mS} {c : Int32} (hn1 : 114 ≤ n) (hn9 : n < 900000) (hx : xfn xf c = some a) (ha : 114 ≤ a) (han : a + 4 ≤ n) (hcn : cn ≤ 4) (h0 : σ a = gF a f cn rt bd) (h3 : σ (a + 3) = .inl (0, 4, .inl Y)) (hY : ¬ ∀ k, k < cn → Y k = 0) : MetZ G l y_S_run b_S_run 3 (some .int) [] 6 1 6 [.ref 0, .int c] n (xOv xs xr xa xl xf σ) (fun o n' σ' => o = .threw n ∧ n' = n + 1 ∧ σ' = xOv xs xr xa xl xf (va_up σ n (.inr (9, [])))) := by
  refine MetZ.of (by decide) (Nat.le_of_ble_eq_true rfl) (fun K hK hR hpo hmc hms C => ?_)
  refine z_aload_n C 1 d_S_run_0 rfl rfl ?_
  refine z_iload_n C 2 d_S_run_1 rfl rfl ?_
  refine z_call C 5 (c_S_functionNamed (by omega) c) w_S_functionNamed ini_S d_S_run_2 rfl (z_goV (As := [.int c]) C l_S_77 w_S_functionNamed d_S_run_2 (by omega) rfl rfl rfl) (Nat.le_of_ble_eq_true rfl) (by rw [hR]; simp only [zRm]; omega) (by rw [hR]; simp only [zRm]; omega) (by rw [hR]; simp only [zRm]; omega) (by rw [hR]; simp only [zRm]; omega) (fun v n' σ' hv => ?_) (fun x n' σ' hv => ?_)
  rotate_left
  · cases hv.1
  rw [hx] at hv
  obtain ⟨e0, e1, rfl⟩ := hv
  cases e0
  obtain rfl : n = n' := e1.symm
  refine z_astore_n C 6 d_S_run_5 rfl (by decide) ?_
  refine z_aload_n C 7 d_S_run_6 rfl rfl ?_
  refine z_ifnull C 10 d_S_run_7 rfl ?_
  refine z_aload_n C 11 d_S_run_10 rfl rfl ?_
  refine z_call C 14 (c_F_takesNumbersOnly ha han hcn h0 h3) w_F_takesNumbersOnly ini_F d_S_run_11 rfl (z_goV (As := []) C l_S_81 w_F_takesNumbersOnly d_S_run_11 (by omega) (((xOv_at (by omega)).trans h0)) rfl rfl) (Nat.le_of_ble_eq_true rfl) (by rw [hR]; simp only [zRm]; omega) (by rw [hR]; simp only [zRm]; omega) (by rw [hR]; simp only [zRm]; omega) (by rw [hR]; simp only [zRm]; omega) (fun v n' σ' hv => ?_) (fun x n' σ' hv => ?_)
  rotate_left
  · rcases hv.1 with ⟨-, w⟩ | ⟨-, w⟩ <;> cases w
  obtain ⟨e0, e1, rfl⟩ := hv
  obtain rfl : n = n' := e1.symm
  obtain ⟨-, e0⟩ := e0.resolve_left (fun w => hY w.1)
  cases e0
  refine z_if_ne C 17 27 d_S_run_14 rfl (by decide) (fun h9 => absurd (show (0 : Int32) = 0 from rfl) h9) (fun _ => ?_)
  exact z_throwS C (ci := 9) (names := zNm) (text := "no such function, or one that takes more than numbers") rfl (by decide) zNm_fit cl_S_85 ini_e1 (by decide) at_S_89 d_S_run_17 d_S_run_20 d_S_run_21 d_S_run_23 d_S_run_26 (fun h hh => nomatch hh) (by rw [hR]; show 2 + 3 < _; simp only [zRm]; omega) (by rw [hR]; show _ + (13 * (2 + 1) + 43) ≤ _; simp only [zRm]; exact Nat.le_of_ble_eq_true rfl) (by omega) (by rw [hR]; simp only [zRm]; omega) (by rw [hR]; simp only [zRm]; omega) (by rw [hmc]; omega) (by rw [hms]; omega) (by rw [hpo]; exact ⟨rfl, rfl, xOv_up (by omega) _⟩)
theorem c_S_run {g : Nat} {u : uF} {res : xT × (Nat ⊕ Int64)} {f rt : Int32} {Y : mS} {c : Int32} (hO : uOk n σ P) (hPu : P g = some u) (hx : xfn xf c = some u.1) (h0 : σ u.1 = gF u.1 f u.2.1 rt (some (u.1 + 4))) (h3 : σ (u.1 + 3) = .inl (0, 4, .inl Y)) (hY : ∀ k, k < u.2.1 → Y k = 0) (hres : cvC P 8 g 0 (xPar u.2.2.2.1 u.2.1 0 (xSt0 (upd s.1 3 (-1), s.2))) = some res) : MetZ G l y_S_run b_S_run 3 (some .int) [] 171 1 6 [.ref 0, .int c] n (uSt σ xr xf s) (sPost n σ xr xf rt res) := by
  obtain ⟨hn1, hn9, hP⟩ := id hO
  obtain ⟨hu1, hu2, hu4, -⟩ := hP _ u hPu
  refine MetZ.of (by decide) (Nat.le_of_ble_eq_true rfl) (fun K hK hR hpo hmc hms C => ?_)
  subst hK
  refine z_aload_n C 1 d_S_run_0 rfl rfl ?_
  refine z_iload_n C 2 d_S_run_1 rfl rfl ?_
  refine z_call C 5 (c_S_functionNamed (by omega) c) w_S_functionNamed ini_S d_S_run_2 rfl (z_goV (As := [.int c]) C l_S_77 w_S_functionNamed d_S_run_2 (by omega) rfl rfl rfl) (Nat.le_of_ble_eq_true rfl) (by rw [hR]; simp only [zRm]; omega) (by rw [hR]; simp only [zRm]; omega) (by rw [hR]; simp only [zRm]; omega) (by rw [hR]; simp only [zRm]; omega) (fun v n' σ' hv => ?_) (fun x n' σ' hv => ?_)
  rotate_left
  · cases hv.1
  rw [hx] at hv
  obtain ⟨e0, e1, rfl⟩ := hv
  cases e0
  obtain rfl : n = n' := e1.symm
  refine z_astore_n C 6 d_S_run_5 rfl (by decide) ?_
  refine z_aload_n C 7 d_S_run_6 rfl rfl ?_
  refine z_ifnull C 10 d_S_run_7 rfl ?_
  refine z_aload_n C 11 d_S_run_10 rfl rfl ?_
  refine z_call C 14 (c_F_takesNumbersOnly hu1 (by omega) hu4 h0 h3) w_F_takesNumbersOnly ini_F d_S_run_11 rfl (z_goV (As := []) C l_S_81 w_F_takesNumbersOnly d_S_run_11 (by omega) (((xOv_at (by omega)).trans h0)) rfl rfl) (Nat.le_of_ble_eq_true rfl) (by rw [hR]; simp only [zRm]; omega) (by rw [hR]; simp only [zRm]; omega) (by rw [hR]; simp only [zRm]; omega) (by rw [hR]; simp only [zRm]; omega) (fun v n' σ' hv => ?_) (fun x n' σ' hv => ?_)
  rotate_left
  · rcases hv.1 with ⟨-, w⟩ | ⟨-, w⟩ <;> cases w
  obtain ⟨e0, e1, rfl⟩ := hv
  obtain rfl : n = n' := e1.symm
  obtain ⟨-, e0⟩ := e0.resolve_right (fun w => w.1 hY)
  cases e0
  refine z_if_ne C 17 27 d_S_run_14 rfl (by decide) (fun _ => ?_) (fun h9 => absurd h9 (show ¬ (1 : Int32) = 0 by decide))
  refine z_aload_n C 28 d_S_run_27 rfl rfl ?_
  refine z_iconst C 29 d_S_run_28 rfl (-1) (by decide) ?_
  refine zx_put0 C 32 3 p_S_47 d_S_run_29 rfl (by omega) (by decide) (by decide) rfl ?_
  refine z_aload_n C 33 d_S_run_32 rfl rfl ?_
  refine z_aload_n C 34 d_S_run_33 rfl rfl ?_
  refine z_get C 37 f_S_33 d_S_run_34 rfl (by omega) rfl rfl ?_
  refine z_aload_n C 38 d_S_run_37 rfl rfl ?_
  refine z_aload_n C 39 d_S_run_38 rfl rfl ?_
  refine z_get C 42 f_S_26 d_S_run_39 rfl (by omega) rfl rfl ?_
  show Z G K n (uSt σ xr xf (upd s.1 3 (-1), s.2)) _ _ _ _ _
  refine z_call C 45 (c_U_start (xf := xf) (xr := xr) hO hPu hres) w_U_start ini_U d_S_run_42 rfl (z_goV (As := [.ref u.1, .ref 4]) C l_S_92 w_U_start d_S_run_42 (by omega) rfl rfl rfl) (Nat.le_of_ble_eq_true rfl) (by rw [hR]; simp only [zRm]; omega) (by rw [hR]; simp only [zRm]; omega) (by rw [hR]; simp only [zRm]; omega) (by rw [hR]; simp only [zRm]; omega) (fun v n' σ' hv => ?_) (fun x n' σ' hv => ?_)
  · match res, hpo, hv with
    | (s', .inl q), hpo, hv => cases hv.1
    | (s', .inr v), hpo, hv =>
      obtain ⟨e0, e1, rfl⟩ := hv
      obtain rfl : n = n' := e1.symm
      cases e0
      refine zx_put0r C 48 p_S_50 d_S_run_45 rfl (by omega) ?_
      refine z_aload_n C 49 d_S_run_48 rfl rfl ?_
      refine z_aload_n C 50 d_S_run_49 rfl rfl ?_
      refine z_get C 53 f_S_96 d_S_run_50 rfl (by omega) ((xOv_at (by omega)).trans h0) rfl ?_
      refine zx_put0 C 56 3 p_S_47 d_S_run_53 rfl (by omega) (by decide) (by decide) rfl ?_
      refine z_aload_n C 57 d_S_run_56 rfl rfl ?_
      refine z_get C 60 f_S_47 d_S_run_57 rfl (by omega) rfl rfl ?_
      exact z_iret C rfl d_S_run_60 (by rw [hpo]; exact ⟨rfl, rfl, rfl⟩) (by rw [hmc]; omega) (by rw [hms]; omega)
  · match res, hpo, hv with
    | (s', .inl q), hpo, hv =>
      obtain ⟨e0, rfl, rfl⟩ := hv
      cases e0
      exact zx_out C (fun h hh => nomatch hh) (by rw [hpo]; exact ⟨rfl, rfl, rfl⟩) (by rw [hmc]; omega) (by rw [hms]; omega)
    | (s', .inr v), hpo, hv => cases hv.1
end UST
