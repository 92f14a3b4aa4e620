theorem sd_0 : Cond.initialized "SoleArrays$Expression" ∈ zTb := zt1 12 (by decide +kernel) rfl
section LF2
variable {G : zG} {l : Launch} {r p z B N : Nat} {σ : zS} {xs : mS} {xr : Int64} {xa : mA} {xl : mL} {xf : xF} {E : Nat → eN}
theorem rIll_mk {M q : Nat} {E' : Nat → eN} {c : va_E} (hrB : r < B) (hM : M ≤ 150) : rIll B r σ xs xr xa xl xf q (.threw (B + 2 * M)) (B + 2 * M + 1) (xOv (upd xs 4 (nI q)) xr xa xl xf (va_up (eOv B M E' (va_up σ r c)) (B + 2 * M) (.inr (9, [])))) := by
  refine ⟨B + 2 * M, _, rfl, rfl, by omega, by omega, rfl, va_up_self _ _ _, fun k hk => ?_⟩
  rw [va_up_ne _ _ (by omega), eOv_lo (by omega), va_up_ne _ _ (by omega)]
theorem c_R_readSignAndVariable {k : Nat} (h : rPre B N r p z σ xa) (hpz : p < z) {mc ms : Nat} (hm1 : 2 ≤ mc ∧ 14 ≤ ms) (hm2 : ¬ (97 ≤ rlk (xa 1) z (p + 1) ∧ rlk (xa 1) z (p + 1) ≤ 116) → 3 ≤ mc ∧ 20 ≤ ms) : MetZ G l y_R_readSignAndVariable b_R_readSignAndVariable 3 (some (.object "SoleArrays$Expression")) [] 8 mc ms [.ref r, .ref (1000001 + k)] (B + 2 * N) (xOv xs xr xa xl xf (eOv B N E σ))
    (fun o n' σ' => ((97 ≤ rlk (xa 1) z (p + 1) ∧ rlk (xa 1) z (p + 1) ≤ 116) ∧ o = .returned (some (.ref (B + 2 * N))) ∧ n' = B + 2 * (N + 1) ∧ σ' = xOv xs xr xa xl xf (eOv B (N + 1) (va_up E N (eVar (rE0 k p) (rlk (xa 1) z (p + 1) - 97) (nI (p + 1)))) (va_up σ r (rdC (p + 2) z)))) ∨ (¬ (97 ≤ rlk (xa 1) z (p + 1) ∧ rlk (xa 1) z (p + 1) ≤ 116) ∧ rIll B r σ xs xr xa xl xf (p + 1) o n' σ')) := by
  obtain ⟨hr, hrB, hB, hrd0, hz, hp, hN, hc⟩ := h
  have hrd : xOv xs xr xa xl xf (eOv B N E σ) r = .inr (4, [.ref 1, .int (nI z), .ref 2, .int (nI p)]) := (xOv_at (by omega)).trans ((eOv_lo hrB).trans hrd0)
  refine MetZ.of (by decide) (Nat.le_of_ble_eq_true rfl) (fun K hK hR hpo hmc hms C => ?_)
  refine z_new C 3 n_R_121 d_R_readSignAndVariable_0 rfl (by omega) (by rw [hR]; simp only [zRm]; omega) (by rw [hR]; simp only [zRm]; omega) ?_
  refine z_dup C 4 d_R_readSignAndVariable_3 rfl rfl ?_
  refine z_aload_n C 5 d_R_readSignAndVariable_4 rfl rfl ?_
  refine z_aload_n C 6 d_R_readSignAndVariable_5 rfl rfl ?_
  refine z_get C 9 f_R_9 d_R_readSignAndVariable_6 rfl (by omega) ((va_up_ne _ _ (by omega)).trans hrd) rfl ?_
  refine z_call C 12 (c_E_init (by omega) (by omega) k (nI p)) w_E_init ini_E d_R_readSignAndVariable_9 rfl (z_goI (As := [.ref (1000001 + k), .int (nI p)]) C l_R_126 w_E_init d_R_readSignAndVariable_9 rfl) (Nat.le_of_ble_eq_true rfl) (by rw [hR]; simp only [zRm]; omega) (by rw [hR]; simp only [zRm]; omega) (by rw [hR]; simp only [zRm]; omega) (by rw [hR]; simp only [zRm]; omega) (fun v n' σ' hv => ?_) (fun x n' σ' hv => ?_)
  · obtain ⟨e0, e1, rfl⟩ := hv
    cases e0
    have e1 : n' = B + 2 * (N + 1) := e1
    subst e1
    have hr1 : xOv xs xr xa xl xf (eOv B (N + 1) (va_up E N (eNew k (nI p))) σ) r = .inr (4, [.ref 1, .int (nI z), .ref 2, .int (nI p)]) := (xOv_at (by omega)).trans ((eOv_lo hrB).trans hrd0)
    refine z_astore_n C 13 d_R_readSignAndVariable_12 rfl (by decide) ?_
    refine z_aload_n C 14 d_R_readSignAndVariable_13 rfl rfl ?_
    refine z_dup C 15 d_R_readSignAndVariable_14 rfl rfl ?_
    refine z_get C 18 f_R_9 d_R_readSignAndVariable_15 rfl (by omega) hr1 rfl ?_
    refine z_iconst C 19 d_R_readSignAndVariable_18 rfl 1 (by decide) ?_
    refine z_iadd C 20 d_R_readSignAndVariable_19 rfl ?_
    refine z_put C 23 p_R_9 d_R_readSignAndVariable_20 rfl (by omega) hr1 (z_ltb rfl) rfl rfl ?_
    rw [xOv_up (by omega), eOv_low hrB]
    show Z G K _ (xOv _ _ _ _ _ (eOv _ _ _ (va_up σ r (.inr (4, [.ref 1, .int (nI z), .ref 2, .int (nI p + 1)]))))) _ _ _ _ _
    rw [nI_1, show (.inr (4, [.ref 1, .int (nI z), .ref 2, .int (nI (p + 1))]) : va_E) = rdC (p + 1) z from rfl]
    have hr2 : ∀ E' : Nat → eN, xOv xs xr xa xl xf (eOv B (N + 1) E' (va_up σ r (rdC (p + 1) z))) r = .inr (4, [.ref 1, .int (nI z), .ref 2, .int (nI (p + 1))]) := fun E' => (xOv_at (by omega)).trans ((eOv_lo hrB).trans (va_up_self _ _ _))
    have ho : ∀ e : eN, xOv xs xr xa xl xf (eOv B (N + 1) (va_up E N e) (va_up σ r (rdC (p + 1) z))) (B + 2 * N) = eCell B N e := fun e => (xOv_at (by omega)).trans ((eOv_obj (Nat.lt_succ_self N)).trans (by rw [va_up_self]))
    refine z_aload_n C 24 d_R_readSignAndVariable_23 rfl rfl ?_
    refine z_aload_n C 25 d_R_readSignAndVariable_24 rfl rfl ?_
    refine z_get C 28 f_R_9 d_R_readSignAndVariable_25 rfl (by omega) (hr2 _) rfl ?_
    refine z_put C 31 p_R_148 d_R_readSignAndVariable_28 rfl (by omega) (ho _) (z_ltb rfl) rfl rfl ?_
    rw [xOv_up (by omega)]
    show Z G K _ (xOv _ _ _ _ _ (va_up _ _ (eCell B N (eVar (rE0 k p) 0 (nI (p + 1)))))) _ _ _ _ _
    rw [eOv_upO (Nat.lt_succ_self N) (by rw [va_up_self]; rfl), va_up2]
    refine z_aload_n C 32 d_R_readSignAndVariable_31 rfl rfl ?_
    refine z_aload_n C 33 d_R_readSignAndVariable_32 rfl rfl ?_
    refine z_bipush C 35 d_R_readSignAndVariable_33 rfl 97 (by decide) ?_
    refine z_bipush C 37 d_R_readSignAndVariable_35 rfl 116 (by decide) ?_
    refine z_call C 40 (c_R_takeOneOf (p := p + 1) (by omega) (by omega) (by omega) (by omega) ((eOv_lo hrB).trans (va_up_self _ _ _)) hz (by omega) hc 97 116 (mc := mc - 2) (ms := ms - 14) (fun w => by have := hm2 w; omega)) w_R_takeOneOf ini_R d_R_readSignAndVariable_37 rfl (z_goV (As := [.int 97, .int 116]) C l_R_28 w_R_takeOneOf d_R_readSignAndVariable_37 (by omega) (hr2 _) rfl rfl) (Nat.le_of_ble_eq_true rfl) (by rw [hR]; simp only [zRm]; omega) (by rw [hR]; simp only [zRm]; omega) (by rw [hR]; simp only [zRm]; omega) (by rw [hR]; simp only [zRm]; omega) (fun v n' σ' hv => ?_) (fun x n' σ' hv => ?_)
    · rcases hv with ⟨hg, e0, rfl, rfl⟩ | ⟨-, e0, -⟩
      · cases e0
        rw [eOv_low hrB, va_up2]
        have ho2 : ∀ e : eN, xOv xs xr xa xl xf (eOv B (N + 1) (va_up E N e) (va_up σ r (rdC (p + 1 + 1) z))) (B + 2 * N) = eCell B N e := fun e => (xOv_at (by omega)).trans ((eOv_obj (Nat.lt_succ_self N)).trans (by rw [va_up_self]))
        refine z_put C 43 p_R_145 d_R_readSignAndVariable_40 rfl (by omega) (ho2 _) (z_ltb rfl) rfl rfl ?_
        rw [xOv_up (by omega)]
        show Z G K _ (xOv _ _ _ _ _ (va_up _ _ (eCell B N (eVar (rE0 k p) (rlk (xa 1) z (p + 1) - 97) (nI (p + 1)))))) _ _ _ _ _
        rw [eOv_upO (Nat.lt_succ_self N) (by rw [va_up_self]; rfl), va_up2]
        refine z_aload_n C 44 d_R_readSignAndVariable_43 rfl rfl ?_
        exact z_aret C rfl d_R_readSignAndVariable_44 (by rw [hpo]; exact Or.inl ⟨hg, rfl, rfl, rfl⟩) (by rw [hmc]; omega) (by rw [hms]; omega)
      · cases e0
    · rcases hv with ⟨-, e0, -⟩ | ⟨hg, e0, rfl, rfl⟩
      · cases e0
      · cases e0
        have hm' := hm2 hg
        exact zx_out C (fun h hh => nomatch hh) (by rw [hpo]; exact Or.inr ⟨hg, rIll_mk hrB (by omega)⟩) (by rw [hmc]; omega) (by rw [hms]; omega)
  · cases hv.1
theorem c_R_takeOperation {n : Nat} (hn : 85 ≤ n) (hn2 : n < 1000000) (hr : 85 ≤ r) (hrn : r < n) (hrd0 : σ r = rdC p z) (hz : z ≤ 150) (hp : p ≤ 150) (hc : ∀ i, i < 150 → narrow .char (.int (xa 1 i)) = .int (xa 1 i)) {mc ms : Nat} (hm : rIsOp (xlk xa p z) = false → 1 ≤ mc ∧ 6 ≤ ms) : MetZ G l y_R_takeOperation b_R_takeOperation 2 (some .char) [] 7 mc ms [.ref r] n (xOv xs xr xa xl xf σ)
    (fun o n' σ' => (rIsOp (xlk xa p z) = true ∧ o = .returned (some (.int (xlk xa p z))) ∧ n' = n ∧ σ' = xOv xs xr xa xl xf (va_up σ r (rdC (p + 1) z))) ∨ (rIsOp (xlk xa p z) = false ∧ o = .threw n ∧ n' = n + 1 ∧ σ' = xOv (upd xs 4 (nI p)) xr xa xl xf (va_up σ n (.inr (9, []))))) := by
  have hrd : xOv xs xr xa xl xf σ r = .inr (4, [.ref 1, .int (nI z), .ref 2, .int (nI p)]) := (xOv_at hr).trans hrd0
  refine MetZ.of (by decide) (Nat.le_of_ble_eq_true rfl) (fun K hK hR hpo hmc hms C => ?_)
  have no : rIsOp (xlk xa p z) = false → Z G K n (xOv xs xr xa xl xf σ) 0 0 113 [(1, .int (xlk xa p z)), (0, .ref r)] [] := fun hb => by
    have hm' := hm hb
    refine z_aload_n C 114 d_R_takeOperation_113 rfl rfl ?_
    refine z_get C 117 f_R_22 d_R_takeOperation_114 rfl (by omega) hrd rfl ?_
    refine z_aload_n C 118 d_R_takeOperation_117 rfl rfl ?_
    refine z_get C 121 f_R_9 d_R_takeOperation_118 rfl (by omega) hrd rfl ?_
    refine z_call C 124 (c_T_ill hn hn2 (nI p)) w_T_ill ini_T d_R_takeOperation_121 rfl (z_goV (As := [.int (nI p)]) C l_R_61 w_T_ill d_R_takeOperation_121 (by omega) rfl rfl rfl) (Nat.le_of_ble_eq_true rfl) (by rw [hR]; simp only [zRm]; omega) (by rw [hR]; simp only [zRm]; omega) (by rw [hR]; simp only [zRm]; omega) (by rw [hR]; simp only [zRm]; omega) (fun v n' σ' hv => ?_) (fun x n' σ' hv => ?_)
    · cases hv.1
    · obtain ⟨e0, rfl, rfl⟩ := hv
      cases e0
      exact zx_out C (fun h hh => nomatch hh) (by rw [hpo]; exact Or.inr ⟨hb, rfl, rfl, rfl⟩) (by rw [hmc]; omega) (by rw [hms]; omega)
  have yes : rIsOp (xlk xa p z) = true → Z G K n (xOv xs xr xa xl xf σ) 0 0 100 [(1, .int (xlk xa p z)), (0, .ref r)] [] := fun hg => by
    have hpz : p < z := rlk_lt (T := xa 1) rfl (rIsOp_ne hg)
    refine z_aload_n C 101 d_R_takeOperation_100 rfl rfl ?_
    refine z_dup C 102 d_R_takeOperation_101 rfl rfl ?_
    refine z_get C 105 f_R_9 d_R_takeOperation_102 rfl (by omega) hrd rfl ?_
    refine z_iconst C 106 d_R_takeOperation_105 rfl 1 (by decide) ?_
    refine z_iadd C 107 d_R_takeOperation_106 rfl ?_
    refine z_put C 110 p_R_9 d_R_takeOperation_107 rfl hrn hrd (z_ltb rfl) rfl rfl ?_
    refine z_goto C 124 d_R_takeOperation_110 (by decide) ?_
    refine z_iload_n C 125 d_R_takeOperation_124 rfl rfl ?_
    exact z_zret C rfl ((by rw [xlk, if_pos hpz]; exact hc p (by omega))) d_R_takeOperation_125 (by rw [hpo]; exact Or.inl ⟨hg, rfl, rfl, by rw [xOv_up hr]; show xOv _ _ _ _ _ (va_up σ r (.inr (4, [.ref 1, .int (nI z), .ref 2, .int (nI p + 1)]))) = _; rw [nI_1]; rfl⟩) (by rw [hmc]; omega) (by rw [hms]; omega)
  refine z_aload_n C 1 d_R_takeOperation_0 rfl rfl ?_
  refine z_call C 4 (c_R_next hn hr hrn hrd0 hz hp hc) w_R_next ini_R d_R_takeOperation_1 rfl (z_goV (As := []) C l_R_39 w_R_next d_R_takeOperation_1 (by omega) (hrd) rfl rfl) (Nat.le_of_ble_eq_true rfl) (by rw [hR]; simp only [zRm]; omega) (by rw [hR]; simp only [zRm]; omega) (by rw [hR]; simp only [zRm]; omega) (by rw [hR]; simp only [zRm]; omega) (fun v n' σ' hv => ?_) (fun x n' σ' hv => ?_)
  · obtain ⟨e0, e1, rfl⟩ := hv
    cases e0
    obtain rfl : n = n' := e1.symm
    refine z_istore_n C 5 d_R_takeOperation_4 rfl (by decide) ?_
    refine z_iload_n C 6 d_R_takeOperation_5 rfl rfl ?_
    by_cases q : 42 ≤ xlk xa p z ∧ xlk xa p z ≤ 61
    · obtain ⟨k, hk, ek, -⟩ := let_c (a := 42) (b := 61) (by omega) (by omega) q.1 q.2
      rcases (show k = 0 ∨ k = 1 ∨ k = 2 ∨ k = 3 ∨ k = 4 ∨ k = 5 ∨ k = 6 ∨ k = 7 ∨ k = 8 ∨ k = 9 ∨ k = 10 ∨ k = 11 ∨ k = 12 ∨ k = 13 ∨ k = 14 ∨ k = 15 ∨ k = 16 ∨ k = 17 ∨ k = 18 ∨ k = 19 by omega) with rfl | rfl | rfl | rfl | rfl | rfl | rfl | rfl | rfl | rfl | rfl | rfl | rfl | rfl | rfl | rfl | rfl | rfl | rfl | rfl
      · refine z_tableIn C 100 d_R_takeOperation_6 (by rw [ek]; decide) (by rw [ek]; decide) (off := 94) (by rw [ek]; decide) (by decide) (yes (by rw [ek]; decide))
      · refine z_tableIn C 100 d_R_takeOperation_6 (by rw [ek]; decide) (by rw [ek]; decide) (off := 94) (by rw [ek]; decide) (by decide) (yes (by rw [ek]; decide))
      · refine z_tableIn C 113 d_R_takeOperation_6 (by rw [ek]; decide) (by rw [ek]; decide) (off := 107) (by rw [ek]; decide) (by decide) (no (by rw [ek]; decide))
      · refine z_tableIn C 100 d_R_takeOperation_6 (by rw [ek]; decide) (by rw [ek]; decide) (off := 94) (by rw [ek]; decide) (by decide) (yes (by rw [ek]; decide))
      · refine z_tableIn C 113 d_R_takeOperation_6 (by rw [ek]; decide) (by rw [ek]; decide) (off := 107) (by rw [ek]; decide) (by decide) (no (by rw [ek]; decide))
      · refine z_tableIn C 100 d_R_takeOperation_6 (by rw [ek]; decide) (by rw [ek]; decide) (off := 94) (by rw [ek]; decide) (by decide) (yes (by rw [ek]; decide))
      · refine z_tableIn C 113 d_R_takeOperation_6 (by rw [ek]; decide) (by rw [ek]; decide) (off := 107) (by rw [ek]; decide) (by decide) (no (by rw [ek]; decide))
      · refine z_tableIn C 113 d_R_takeOperation_6 (by rw [ek]; decide) (by rw [ek]; decide) (off := 107) (by rw [ek]; decide) (by decide) (no (by rw [ek]; decide))
      · refine z_tableIn C 113 d_R_takeOperation_6 (by rw [ek]; decide) (by rw [ek]; decide) (off := 107) (by rw [ek]; decide) (by decide) (no (by rw [ek]; decide))
      · refine z_tableIn C 113 d_R_takeOperation_6 (by rw [ek]; decide) (by rw [ek]; decide) (off := 107) (by rw [ek]; decide) (by decide) (no (by rw [ek]; decide))
      · refine z_tableIn C 113 d_R_takeOperation_6 (by rw [ek]; decide) (by rw [ek]; decide) (off := 107) (by rw [ek]; decide) (by decide) (no (by rw [ek]; decide))
      · refine z_tableIn C 113 d_R_takeOperation_6 (by rw [ek]; decide) (by rw [ek]; decide) (off := 107) (by rw [ek]; decide) (by decide) (no (by rw [ek]; decide))
      · refine z_tableIn C 113 d_R_takeOperation_6 (by rw [ek]; decide) (by rw [ek]; decide) (off := 107) (by rw [ek]; decide) (by decide) (no (by rw [ek]; decide))
      · refine z_tableIn C 113 d_R_takeOperation_6 (by rw [ek]; decide) (by rw [ek]; decide) (off := 107) (by rw [ek]; decide) (by decide) (no (by rw [ek]; decide))
      · refine z_tableIn C 113 d_R_takeOperation_6 (by rw [ek]; decide) (by rw [ek]; decide) (off := 107) (by rw [ek]; decide) (by decide) (no (by rw [ek]; decide))
      · refine z_tableIn C 113 d_R_takeOperation_6 (by rw [ek]; decide) (by rw [ek]; decide) (off := 107) (by rw [ek]; decide) (by decide) (no (by rw [ek]; decide))
      · refine z_tableIn C 113 d_R_takeOperation_6 (by rw [ek]; decide) (by rw [ek]; decide) (off := 107) (by rw [ek]; decide) (by decide) (no (by rw [ek]; decide))
      · refine z_tableIn C 113 d_R_takeOperation_6 (by rw [ek]; decide) (by rw [ek]; decide) (off := 107) (by rw [ek]; decide) (by decide) (no (by rw [ek]; decide))
      · refine z_tableIn C 100 d_R_takeOperation_6 (by rw [ek]; decide) (by rw [ek]; decide) (off := 94) (by rw [ek]; decide) (by decide) (yes (by rw [ek]; decide))
      · refine z_tableIn C 100 d_R_takeOperation_6 (by rw [ek]; decide) (by rw [ek]; decide) (off := 94) (by rw [ek]; decide) (by decide) (yes (by rw [ek]; decide))
    · refine z_tableOut C 113 d_R_takeOperation_6 ?_ (by decide) (no ?_)
      · have e1 : ∀ a : Nat, a < 100 → (nI a).toInt = (a : Int) := fun a ha => nI_toInt (by omega)
        refine Decidable.byContradiction fun w => q ?_
        have w1 : ¬ (xlk xa p z).toInt < 42 := fun v => w (Or.inl v)
        have w2 : ¬ 61 < (xlk xa p z).toInt := fun v => w (Or.inr v)
        exact ⟨Int32.le_iff_toInt_le.mpr (by rw [show (42 : Int32).toInt = 42 from rfl]; omega), Int32.le_iff_toInt_le.mpr (by rw [show (61 : Int32).toInt = 61 from rfl]; omega)⟩
      · refine Decidable.byContradiction fun w => q ?_
        have w : rIsOp (xlk xa p z) = true := by
          cases h9 : rIsOp (xlk xa p z) with
          | false => exact absurd h9 w
          | true => rfl
        unfold rIsOp at w
        simp only [Bool.or_eq_true, beq_iff_eq] at w
        rcases w with ((((w | w) | w) | w) | w) | w <;> rw [w] <;> decide
  · cases hv.1
end LF2
